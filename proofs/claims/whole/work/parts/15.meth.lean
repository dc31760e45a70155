def f_X11_byteOf_L35 : Nat → Int32 → Int32 → Int32 → Int32 →  Mm → Option (Int32 × Mm)
  | 0, _, _, _, _, _ => none
  | k + 1, v1, v2, v3, v4, m => gd (inb v1 80) ((if v4 < (gI m 100 (ix v1)) then (if v4 = v2 then f_X11_byteOf_L35 k v1 v2 v3 (v4 + (1 : Int32)) m else gd (inb (((5 : Int32) * v1) + v4) 400) (gd (inb ((214 : Int32) + (gI m 109 (ix (((5 : Int32) * v1) + v4)))) 374) (f_X11_byteOf_L35 k v1 v2 (v3 ^^^ (gI m 117 (ix ((214 : Int32) + (gI m 109 (ix (((5 : Int32) * v1) + v4))))))) (v4 + (1 : Int32)) m))) else some (v3, m)))
theorem t_X11_byteOf_L35 {X : XX} {G : GG} {ρ : Nat → Nat} {n t u w v : Nat} {x : Option Nat} {d : Nat} (hX : Ok X G ρ cX11_byteOf 5 RX11 d) (hd0 : 0 ≤ d) (hn : 126 ≤ n) {rE : Int32} {mE : Mm} (hF : Fin' X G ρ n (some .int) (some (.int rE)) (RT t u w v x) mE) : ∀ (k : Nat) (v1 : Int32) (v2 : Int32) (v3 : Int32) (v4 : Int32) (m : Mm), f_X11_byteOf_L35 k v1 v2 v3 v4 m = some (rE, mE) → J X G ρ n 5 35 [(0, .ref 78), (1, .int v1), (2, .int v2), (3, .int v3), (4, .int v4)] [] (RT t u w v x) m := by
  intro k
  induction k with
  | zero => intro _ _ _ _ _ h; rw [f_X11_byteOf_L35] at h; cases h
  | succ k ih =>
    intro v1 v2 v3 v4 m h
    rw [f_X11_byteOf_L35] at h
    refine J_iload hX dX11_byteOf_35 4 rfl ?_
    refine J_aload_n hX dX11_byteOf_37 rfl 0 rfl ?_
    refine J_getR hX dX11_byteOf_38 fl_RX11_74 (ltn ltc_78 hn) lo_78 rfl (rt_78_33 _ _ _ _ _) ?_
    refine J_iload_n hX dX11_byteOf_41 rfl 1 rfl ?_
    refine J_iaload hX dX11_byteOf_42 (ltn ltc_100 hn) lay_100 h (fun h => ?_)
    refine J_icmp_ge hX 81 dX11_byteOf_43 (by decide) h (fun c h => ?_) (fun c h => ?_)
    · refine J_iload hX dX11_byteOf_46 4 rfl ?_
      refine J_iload_n hX dX11_byteOf_48 rfl 2 rfl ?_
      refine J_icmp_eq hX 75 dX11_byteOf_49 (by decide) h (fun c h => ?_) (fun c h => ?_)
      · refine J_iinc hX (v4 + (1 : Int32)) [(4, .int (v4 + (1 : Int32))), (0, .ref 78), (1, .int v1), (2, .int v2), (3, .int v3)] dX11_byteOf_75 4 rfl (congrArg (fun z => v4 + z) ic_1) (by decide) rfl ?_
        refine J_goto hX 35 dX11_byteOf_78 (by decide) ?_
        refine J_sub [(0, .ref 78), (1, .int v1), (2, .int v2), (3, .int v3), (4, .int (v4 + (1 : Int32)))] [1, 2, 3, 4, 0] rfl ?_
        exact ih v1 v2 v3 (v4 + (1 : Int32)) m h
      · refine J_iload_n hX dX11_byteOf_52 rfl 3 rfl ?_
        refine J_aload_n hX dX11_byteOf_53 rfl 0 rfl ?_
        refine J_getR hX dX11_byteOf_54 fl_RX11_125 (ltn ltc_78 hn) lo_78 rfl (rt_78_50 _ _ _ _ _) ?_
        refine J_sipush hX (214 : Int32) dX11_byteOf_57 (by decide) ?_
        refine J_aload_n hX dX11_byteOf_60 rfl 0 rfl ?_
        refine J_getR hX dX11_byteOf_61 fl_RX11_101 (ltn ltc_78 hn) lo_78 rfl (rt_78_42 _ _ _ _ _) ?_
        refine J_iconst hX (5 : Int32) dX11_byteOf_64 ic_5 ?_
        refine J_iload_n hX dX11_byteOf_65 rfl 1 rfl ?_
        refine J_imul hX dX11_byteOf_66 ?_
        refine J_iload hX dX11_byteOf_67 4 rfl ?_
        refine J_iadd hX dX11_byteOf_69 ?_
        refine J_iaload hX dX11_byteOf_70 (ltn ltc_109 hn) lay_109 h (fun h => ?_)
        refine J_iadd hX dX11_byteOf_71 ?_
        refine J_iaload hX dX11_byteOf_72 (ltn ltc_117 hn) lay_117 h (fun h => ?_)
        refine J_ixor hX dX11_byteOf_73 ?_
        refine J_istore_n hX [(3, .int (v3 ^^^ (gI m 117 (ix ((214 : Int32) + (gI m 109 (ix (((5 : Int32) * v1) + v4)))))))), (0, .ref 78), (1, .int v1), (2, .int v2), (4, .int v4)] dX11_byteOf_74 rfl (by decide) rfl ?_
        refine J_iinc hX (v4 + (1 : Int32)) [(4, .int (v4 + (1 : Int32))), (3, .int (v3 ^^^ (gI m 117 (ix ((214 : Int32) + (gI m 109 (ix (((5 : Int32) * v1) + v4)))))))), (0, .ref 78), (1, .int v1), (2, .int v2)] dX11_byteOf_75 4 rfl (congrArg (fun z => v4 + z) ic_1) (by decide) rfl ?_
        refine J_goto hX 35 dX11_byteOf_78 (by decide) ?_
        refine J_sub [(0, .ref 78), (1, .int v1), (2, .int v2), (3, .int (v3 ^^^ (gI m 117 (ix ((214 : Int32) + (gI m 109 (ix (((5 : Int32) * v1) + v4)))))))), (4, .int (v4 + (1 : Int32)))] [2, 3, 4, 1, 0] rfl ?_
        exact ih v1 v2 (v3 ^^^ (gI m 117 (ix ((214 : Int32) + (gI m 109 (ix (((5 : Int32) * v1) + v4))))))) (v4 + (1 : Int32)) m h
    · refine J_iload_n hX dX11_byteOf_81 rfl 3 rfl ?_
      exact J_ireturn hX dX11_byteOf_82 h hF rfl
def f_X11_byteOf (x1 : Int32) (x2 : Int32) (m : Mm) : Option (Int32 × Mm) := gd (inb x1 80) ((if x2 = (gI m 102 (ix x1)) then f_X11_byteOf_L35 FU x1 x2 (0 : Int32) (0 : Int32)  m else gd (inb (((5 : Int32) * x1) + x2) 400) (gd (inb ((214 : Int32) + (gI m 109 (ix (((5 : Int32) * x1) + x2)))) 374) (some ((gI m 117 (ix ((214 : Int32) + (gI m 109 (ix (((5 : Int32) * x1) + x2)))))), m)))))
theorem t_X11_byteOf {X : XX} {G : GG} {ρ : Nat → Nat} {n t u w v : Nat} {x : Option Nat} {d : Nat} (hX : Ok X G ρ cX11_byteOf 5 RX11 d) (hd0 : 0 ≤ d) (hn : 126 ≤ n) {rE : Int32} {mE : Mm} (hF : Fin' X G ρ n (some .int) (some (.int rE)) (RT t u w v x) mE) {x1 : Int32} {x2 : Int32} {m : Mm} (h : f_X11_byteOf x1 x2 m = some (rE, mE)) : J X G ρ n 5 0 [(0, .ref 78), (1, .int x1), (2, .int x2)] [] (RT t u w v x) m := by
  unfold f_X11_byteOf at h
  refine J_iload_n hX dX11_byteOf_0 rfl 2 rfl ?_
  refine J_aload_n hX dX11_byteOf_1 rfl 0 rfl ?_
  refine J_getR hX dX11_byteOf_2 fl_RX11_80 (ltn ltc_78 hn) lo_78 rfl (rt_78_35 _ _ _ _ _) ?_
  refine J_iload_n hX dX11_byteOf_5 rfl 1 rfl ?_
  refine J_iaload hX dX11_byteOf_6 (ltn ltc_102 hn) lay_102 h (fun h => ?_)
  refine J_icmp_eq hX 30 dX11_byteOf_7 (by decide) h (fun c h => ?_) (fun c h => ?_)
  · refine J_iconst hX (0 : Int32) dX11_byteOf_30 ic_0 ?_
    refine J_istore_n hX [(3, .int (0 : Int32)), (0, .ref 78), (1, .int x1), (2, .int x2)] dX11_byteOf_31 rfl (by decide) rfl ?_
    refine J_iconst hX (0 : Int32) dX11_byteOf_32 ic_0 ?_
    refine J_istore hX [(4, .int (0 : Int32)), (3, .int (0 : Int32)), (0, .ref 78), (1, .int x1), (2, .int x2)] dX11_byteOf_33 (by decide) rfl ?_
    refine J_sub [(0, .ref 78), (1, .int x1), (2, .int x2), (3, .int (0 : Int32)), (4, .int (0 : Int32))] [2, 3, 4, 1, 0] rfl ?_
    exact t_X11_byteOf_L35 hX hd0 hn hF FU x1 x2 (0 : Int32) (0 : Int32)  m h
  · refine J_aload_n hX dX11_byteOf_10 rfl 0 rfl ?_
    refine J_getR hX dX11_byteOf_11 fl_RX11_125 (ltn ltc_78 hn) lo_78 rfl (rt_78_50 _ _ _ _ _) ?_
    refine J_sipush hX (214 : Int32) dX11_byteOf_14 (by decide) ?_
    refine J_aload_n hX dX11_byteOf_17 rfl 0 rfl ?_
    refine J_getR hX dX11_byteOf_18 fl_RX11_101 (ltn ltc_78 hn) lo_78 rfl (rt_78_42 _ _ _ _ _) ?_
    refine J_iconst hX (5 : Int32) dX11_byteOf_21 ic_5 ?_
    refine J_iload_n hX dX11_byteOf_22 rfl 1 rfl ?_
    refine J_imul hX dX11_byteOf_23 ?_
    refine J_iload_n hX dX11_byteOf_24 rfl 2 rfl ?_
    refine J_iadd hX dX11_byteOf_25 ?_
    refine J_iaload hX dX11_byteOf_26 (ltn ltc_109 hn) lay_109 h (fun h => ?_)
    refine J_iadd hX dX11_byteOf_27 ?_
    refine J_iaload hX dX11_byteOf_28 (ltn ltc_117 hn) lay_117 h (fun h => ?_)
    exact J_ireturn hX dX11_byteOf_29 h hF rfl
theorem c_X11_byteOf {G : GG} {l : Launch} {ρ : Nat → Nat} {n t u w v : Nat} {x : Option Nat} (hn : 126 ≤ n) {x1 : Int32} {x2 : Int32} {m : Mm} {rE : Int32} {mE : Mm} (h : f_X11_byteOf x1 x2 m = some (rE, mE)) : CT G l yX11_byteOf cX11_byteOf 5 (some .int) 0 0 0 ρ n (RT t u w v x) [.ref 78, .int x1, .int x2] m (some (.int rE)) (RT t u w v x) mE := ct_of_J (by decide) rfl (Nat.le_of_ble_eq_true rfl) (fun X hX e1 e2 e3 e4 hQ hr hl => t_X11_byteOf hX (Nat.le_refl _) hn ⟨by rw [hQ, e3, e4], hr, hl⟩ h)
def f_X11_unit (x1 : Int32) (x2 : Int32) (x3 : Int32) (m : Mm) : Option (Int32 × Mm) := stI m 78 0 (0 : Int32) (fun m1 => bd2 (f_X11_within x1 (0 : Int32) ((gI m1 99 (ix (0 : Int32))) - (1 : Int32)) m1) (fun r3 m2 => (if r3 = 0 then some ((-2 : Int32), m2) else gd (inb x1 80) (bd2 (f_X11_within x2 (0 : Int32) ((gI m2 100 (ix x1)) - (1 : Int32)) m2) (fun r5 m4 => (if r5 = 0 then some ((-2 : Int32), m4) else bd2 (f_X11_within x3 (0 : Int32) (4 : Int32) m4) (fun r7 m6 => (if r7 = 0 then some ((-2 : Int32), m6) else (if x3 < (3 : Int32) then (if x3 = 0 then gd (inb (((5 : Int32) * x1) + x2) 400) (some ((gI m6 105 (ix (((5 : Int32) * x1) + x2))), m6)) else (if x3 = (1 : Int32) then gd (inb (((5 : Int32) * x1) + x2) 400) (some ((gI m6 106 (ix (((5 : Int32) * x1) + x2))), m6)) else gd (inb ((14 : Int32) + (((5 : Int32) * x1) + x2)) 374) (some ((gI m6 117 (ix ((14 : Int32) + (((5 : Int32) * x1) + x2)))), m6)))) else (if x3 = (4 : Int32) then gd (inb (((5 : Int32) * x1) + x2) 400) (some ((gI m6 109 (ix (((5 : Int32) * x1) + x2))), m6)) else gd (inb ((14 : Int32) + (((5 : Int32) * x1) + x2)) 374) ((if (gI m6 117 (ix ((14 : Int32) + (((5 : Int32) * x1) + x2)))) = (2 : Int32) then bd2 (f_X11_isDead x1 m6) (fun r11 m10 => (if r11 = 0 then bd2 (f_X11_byteOf x1 x2 m10) (fun r13 m12 => some (r13, m12)) else some ((-1 : Int32), m10))) else bd2 (f_X11_byteOf x1 x2 m6) (fun r9 m8 => some (r9, m8))))))))))))))
theorem t_X11_unit {X : XX} {G : GG} {ρ : Nat → Nat} {n t u w v : Nat} {x : Option Nat} {d : Nat} (hX : Ok X G ρ cX11_unit 5 RX11 d) (hd0 : 2 ≤ d) (hn : 126 ≤ n) {rE : Int32} {mE : Mm} (hF : Fin' X G ρ n (some .int) (some (.int rE)) (RT t u w v x) mE) {x1 : Int32} {x2 : Int32} {x3 : Int32} {m : Mm} (h : f_X11_unit x1 x2 x3 m = some (rE, mE)) : J X G ρ n 5 0 [(0, .ref 78), (1, .int x1), (2, .int x2), (3, .int x3)] [] (RT t u w v x) m := by
  unfold f_X11_unit at h
  refine J_aload_n hX dX11_unit_0 rfl 0 rfl ?_
  refine J_iconst hX (0 : Int32) dX11_unit_1 ic_0 ?_
  refine J_putI hX dX11_unit_2 pl_RX11_152 (ltn ltc_78 hn) lo_78 rfl rfl rfl h (fun m1 h => ?_)
  refine J_iload_n hX dX11_unit_5 rfl 1 rfl ?_
  refine J_iconst hX (0 : Int32) dX11_unit_6 ic_0 ?_
  refine J_aload_n hX dX11_unit_7 rfl 0 rfl ?_
  refine J_getR hX dX11_unit_8 fl_RX11_71 (ltn ltc_78 hn) lo_78 rfl (rt_78_32 _ _ _ _ _) ?_
  refine J_iconst hX (0 : Int32) dX11_unit_11 ic_0 ?_
  refine J_iaload0 hX dX11_unit_12 (ltn ltc_99 hn) lay_99 (by decide) ?_
  refine J_iconst hX (1 : Int32) dX11_unit_13 ic_1 ?_
  refine J_isub hX dX11_unit_14 ?_
  obtain ⟨r3, m2, h0, h⟩ := bd2_some h
  refine J_callSi (As := [.int x1, .int (0 : Int32), .int ((gI m1 99 (ix (0 : Int32))) - (1 : Int32))]) (st := []) hX dX11_unit_15 cw_RX11_239 (by omega) (c_X11_within hn  h0) rfl rfl (Nat.le_of_ble_eq_true rfl) ?_
  clear h0
  refine J_if_eq hX 46 dX11_unit_18 (by decide) h (fun c h => ?_) (fun c h => ?_)
  · refine J_bipush hX (-2 : Int32) dX11_unit_46 (by decide) ?_
    exact J_ireturn hX dX11_unit_48 h hF rfl
  · refine J_iload_n hX dX11_unit_21 rfl 2 rfl ?_
    refine J_iconst hX (0 : Int32) dX11_unit_22 ic_0 ?_
    refine J_aload_n hX dX11_unit_23 rfl 0 rfl ?_
    refine J_getR hX dX11_unit_24 fl_RX11_74 (ltn ltc_78 hn) lo_78 rfl (rt_78_33 _ _ _ _ _) ?_
    refine J_iload_n hX dX11_unit_27 rfl 1 rfl ?_
    refine J_iaload hX dX11_unit_28 (ltn ltc_100 hn) lay_100 h (fun h => ?_)
    refine J_iconst hX (1 : Int32) dX11_unit_29 ic_1 ?_
    refine J_isub hX dX11_unit_30 ?_
    obtain ⟨r5, m4, h0, h⟩ := bd2_some h
    refine J_callSi (As := [.int x2, .int (0 : Int32), .int ((gI m2 100 (ix x1)) - (1 : Int32))]) (st := []) hX dX11_unit_31 cw_RX11_239 (by omega) (c_X11_within hn  h0) rfl rfl (Nat.le_of_ble_eq_true rfl) ?_
    clear h0
    refine J_if_eq hX 46 dX11_unit_34 (by decide) h (fun c h => ?_) (fun c h => ?_)
    · refine J_bipush hX (-2 : Int32) dX11_unit_46 (by decide) ?_
      exact J_ireturn hX dX11_unit_48 h hF rfl
    · refine J_iload_n hX dX11_unit_37 rfl 3 rfl ?_
      refine J_iconst hX (0 : Int32) dX11_unit_38 ic_0 ?_
      refine J_iconst hX (4 : Int32) dX11_unit_39 ic_4 ?_
      obtain ⟨r7, m6, h0, h⟩ := bd2_some h
      refine J_callSi (As := [.int x3, .int (0 : Int32), .int (4 : Int32)]) (st := []) hX dX11_unit_40 cw_RX11_239 (by omega) (c_X11_within hn  h0) rfl rfl (Nat.le_of_ble_eq_true rfl) ?_
      clear h0
      refine J_if_ne hX 49 dX11_unit_43 (by decide) h (fun c h => ?_) (fun c h => ?_)
      · refine J_bipush hX (-2 : Int32) dX11_unit_46 (by decide) ?_
        exact J_ireturn hX dX11_unit_48 h hF rfl
      · refine J_iconst hX (5 : Int32) dX11_unit_49 ic_5 ?_
        refine J_iload_n hX dX11_unit_50 rfl 1 rfl ?_
        refine J_imul hX dX11_unit_51 ?_
        refine J_iload_n hX dX11_unit_52 rfl 2 rfl ?_
        refine J_iadd hX dX11_unit_53 ?_
        refine J_istore hX [(4, .int (((5 : Int32) * x1) + x2)), (0, .ref 78), (1, .int x1), (2, .int x2), (3, .int x3)] dX11_unit_54 (by decide) rfl ?_
        refine J_iload_n hX dX11_unit_56 rfl 4 rfl ?_
        refine J_iconst hX (3 : Int32) dX11_unit_57 ic_3 ?_
        refine J_icmp_ge hX 101 dX11_unit_58 (by decide) h (fun c h => ?_) (fun c h => ?_)
        · refine J_iload_n hX dX11_unit_61 rfl 4 rfl ?_
          refine J_if_ne hX 75 dX11_unit_62 (by decide) h (fun c h => ?_) (fun c h => ?_)
          · refine J_aload_n hX dX11_unit_65 rfl 1 rfl ?_
            refine J_getR hX dX11_unit_66 fl_RX11_89 (ltn ltc_78 hn) lo_78 rfl (rt_78_38 _ _ _ _ _) ?_
            refine J_iload hX dX11_unit_69 0 rfl ?_
            refine J_iaload hX dX11_unit_71 (ltn ltc_105 hn) lay_105 h (fun h => ?_)
            refine J_goto hX 100 dX11_unit_72 (by decide) ?_
            exact J_ireturn hX dX11_unit_100 h hF rfl
          · refine J_iload_n hX dX11_unit_75 rfl 4 rfl ?_
            refine J_iconst hX (1 : Int32) dX11_unit_76 ic_1 ?_
            refine J_icmp_ne hX 90 dX11_unit_77 (by decide) h (fun c h => ?_) (fun c h => ?_)
            · refine J_aload_n hX dX11_unit_80 rfl 1 rfl ?_
              refine J_getR hX dX11_unit_81 fl_RX11_92 (ltn ltc_78 hn) lo_78 rfl (rt_78_39 _ _ _ _ _) ?_
              refine J_iload hX dX11_unit_84 0 rfl ?_
              refine J_iaload hX dX11_unit_86 (ltn ltc_106 hn) lay_106 h (fun h => ?_)
              refine J_goto hX 100 dX11_unit_87 (by decide) ?_
              exact J_ireturn hX dX11_unit_100 h hF rfl
            · refine J_aload_n hX dX11_unit_90 rfl 1 rfl ?_
              refine J_getR hX dX11_unit_91 fl_RX11_125 (ltn ltc_78 hn) lo_78 rfl (rt_78_50 _ _ _ _ _) ?_
              refine J_bipush hX (14 : Int32) dX11_unit_94 (by decide) ?_
              refine J_iload hX dX11_unit_96 0 rfl ?_
              refine J_iadd hX dX11_unit_98 ?_
              refine J_iaload hX dX11_unit_99 (ltn ltc_117 hn) lay_117 h (fun h => ?_)
              exact J_ireturn hX dX11_unit_100 h hF rfl
        · refine J_iload_n hX dX11_unit_101 rfl 4 rfl ?_
          refine J_iconst hX (4 : Int32) dX11_unit_102 ic_4 ?_
          refine J_icmp_ne hX 114 dX11_unit_103 (by decide) h (fun c h => ?_) (fun c h => ?_)
          · refine J_aload_n hX dX11_unit_106 rfl 1 rfl ?_
            refine J_getR hX dX11_unit_107 fl_RX11_101 (ltn ltc_78 hn) lo_78 rfl (rt_78_42 _ _ _ _ _) ?_
            refine J_iload hX dX11_unit_110 0 rfl ?_
            refine J_iaload hX dX11_unit_112 (ltn ltc_109 hn) lay_109 h (fun h => ?_)
            exact J_ireturn hX dX11_unit_113 h hF rfl
          · refine J_aload_n hX dX11_unit_114 rfl 1 rfl ?_
            refine J_getR hX dX11_unit_115 fl_RX11_125 (ltn ltc_78 hn) lo_78 rfl (rt_78_50 _ _ _ _ _) ?_
            refine J_bipush hX (14 : Int32) dX11_unit_118 (by decide) ?_
            refine J_iload hX dX11_unit_120 0 rfl ?_
            refine J_iadd hX dX11_unit_122 ?_
            refine J_iaload hX dX11_unit_123 (ltn ltc_117 hn) lay_117 h (fun h => ?_)
            refine J_iconst hX (2 : Int32) dX11_unit_124 ic_2 ?_
            refine J_icmp_ne hX 140 dX11_unit_125 (by decide) h (fun c h => ?_) (fun c h => ?_)
            · refine J_aload_n hX dX11_unit_128 rfl 1 rfl ?_
              refine J_iload_n hX dX11_unit_129 rfl 2 rfl ?_
              obtain ⟨r11, m10, h0, h⟩ := bd2_some h
              refine J_callVi (As := [.int x1]) (st := []) hX dX11_unit_130 cw_RX11_361 (by omega) (c_X11_isDead hn  h0) (ltn ltc_78 hn) lo_78 (by decide) rfl rfl rfl (Nat.le_of_ble_eq_true rfl) ?_
              clear h0
              refine J_if_eq hX 140 dX11_unit_133 (by decide) h (fun c h => ?_) (fun c h => ?_)
              · refine J_aload_n hX dX11_unit_140 rfl 1 rfl ?_
                refine J_iload_n hX dX11_unit_141 rfl 2 rfl ?_
                refine J_iload_n hX dX11_unit_142 rfl 3 rfl ?_
                obtain ⟨r13, m12, h0, h⟩ := bd2_some h
                refine J_callVi (As := [.int x1, .int x2]) (st := []) hX dX11_unit_143 cw_RX11_379 (by omega) (c_X11_byteOf hn  h0) (ltn ltc_78 hn) lo_78 (by decide) rfl rfl rfl (Nat.le_of_ble_eq_true rfl) ?_
                clear h0
                exact J_ireturn hX dX11_unit_146 h hF rfl
              · refine J_iconst hX (-1 : Int32) dX11_unit_136 ic_m1 ?_
                refine J_goto hX 146 dX11_unit_137 (by decide) ?_
                exact J_ireturn hX dX11_unit_146 h hF rfl
            · refine J_aload_n hX dX11_unit_140 rfl 1 rfl ?_
              refine J_iload_n hX dX11_unit_141 rfl 2 rfl ?_
              refine J_iload_n hX dX11_unit_142 rfl 3 rfl ?_
              obtain ⟨r9, m8, h0, h⟩ := bd2_some h
              refine J_callVi (As := [.int x1, .int x2]) (st := []) hX dX11_unit_143 cw_RX11_379 (by omega) (c_X11_byteOf hn  h0) (ltn ltc_78 hn) lo_78 (by decide) rfl rfl rfl (Nat.le_of_ble_eq_true rfl) ?_
              clear h0
              exact J_ireturn hX dX11_unit_146 h hF rfl
theorem c_X11_unit {G : GG} {l : Launch} {ρ : Nat → Nat} {n t u w v : Nat} {x : Option Nat} (hn : 126 ≤ n) {x1 : Int32} {x2 : Int32} {x3 : Int32} {m : Mm} {rE : Int32} {mE : Mm} (h : f_X11_unit x1 x2 x3 m = some (rE, mE)) : CT G l yX11_unit cX11_unit 5 (some .int) 2 0 0 ρ n (RT t u w v x) [.ref 78, .int x1, .int x2, .int x3] m (some (.int rE)) (RT t u w v x) mE := ct_of_J (by decide) rfl (Nat.le_of_ble_eq_true rfl) (fun X hX e1 e2 e3 e4 hQ hr hl => t_X11_unit hX (Nat.le_refl _) hn ⟨by rw [hQ, e3, e4], hr, hl⟩ h)
def f_X6_placeNow (a : Nat) (x1 : Int32) (m : Mm) : Option (Int32 × Mm) := gd (inb x1 200) ((if (gI m (a + 1) (ix x1)) = (2 : Int32) then some ((-1 : Int32), m) else gd (inb x1 200) ((if (gI m (a + 1) (ix x1)) = 0 then gd (inb x1 200) (some ((gI m 34 (ix x1)), m)) else gd (inb (x1 / (5 : Int32)) 40) (some ((gI m 31 (ix (x1 / (5 : Int32)))), m))))))
theorem t_X6_placeNow {X : XX} {G : GG} {ρ : Nat → Nat} {n t u w v : Nat} {x : Option Nat} {d : Nat} {a : Nat} (hX : Ok X G ρ cX6_placeNow 2 RX6 d) (hd0 : 0 ≤ d) (hn : 126 ≤ n) (ha : isSt a) {rE : Int32} {mE : Mm} (hF : Fin' X G ρ n (some .int) (some (.int rE)) (RT t u w v x) mE) {x1 : Int32} {m : Mm} (h : f_X6_placeNow a x1 m = some (rE, mE)) : J X G ρ n 2 0 [(0, .ref a), (1, .int x1)] [] (RT t u w v x) m := by
  unfold f_X6_placeNow at h
  refine J_aload_n hX dX6_placeNow_0 rfl 0 rfl ?_
  refine J_getR hX dX6_placeNow_1 fl_RX6_9 (ltn (lt_isSt_0 ha) hn) (lo_isSt_0 ha) rfl (rt_isSt_0_2 _ _ _ _ _ ha) ?_
  refine J_iload_n hX dX6_placeNow_4 rfl 1 rfl ?_
  refine J_iaload hX dX6_placeNow_5 (ltn (lt_isSt_1 ha) hn) (lay_isSt_1 ha) h (fun h => ?_)
  refine J_iconst hX (2 : Int32) dX6_placeNow_6 ic_2 ?_
  refine J_icmp_ne hX 12 dX6_placeNow_7 (by decide) h (fun c h => ?_) (fun c h => ?_)
  · refine J_iconst hX (-1 : Int32) dX6_placeNow_10 ic_m1 ?_
    exact J_ireturn hX dX6_placeNow_11 h hF rfl
  · refine J_aload_n hX dX6_placeNow_12 rfl 0 rfl ?_
    refine J_getR hX dX6_placeNow_13 fl_RX6_9 (ltn (lt_isSt_0 ha) hn) (lo_isSt_0 ha) rfl (rt_isSt_0_2 _ _ _ _ _ ha) ?_
    refine J_iload_n hX dX6_placeNow_16 rfl 1 rfl ?_
    refine J_iaload hX dX6_placeNow_17 (ltn (lt_isSt_1 ha) hn) (lay_isSt_1 ha) h (fun h => ?_)
    refine J_if_ne hX 33 dX6_placeNow_18 (by decide) h (fun c h => ?_) (fun c h => ?_)
    · refine J_aload_n hX dX6_placeNow_21 rfl 0 rfl ?_
      refine J_getR hX dX6_placeNow_22 fl_RX6_24 (ltn (lt_isSt_0 ha) hn) (lo_isSt_0 ha) rfl (rt_isSt_0_0 _ _ _ _ _ ha) ?_
      refine J_getR hX dX6_placeNow_25 fl_RX6_55 (ltn ltc_26 hn) lo_26 rfl (rt_26_10 _ _ _ _ _) ?_
      refine J_iload_n hX dX6_placeNow_28 rfl 1 rfl ?_
      refine J_iaload hX dX6_placeNow_29 (ltn ltc_34 hn) lay_34 h (fun h => ?_)
      refine J_goto hX 44 dX6_placeNow_30 (by decide) ?_
      exact J_ireturn hX dX6_placeNow_44 h hF rfl
    · refine J_aload_n hX dX6_placeNow_33 rfl 0 rfl ?_
      refine J_getR hX dX6_placeNow_34 fl_RX6_24 (ltn (lt_isSt_0 ha) hn) (lo_isSt_0 ha) rfl (rt_isSt_0_0 _ _ _ _ _ ha) ?_
      refine J_getR hX dX6_placeNow_37 fl_RX6_58 (ltn ltc_26 hn) lo_26 rfl (rt_26_7 _ _ _ _ _) ?_
      refine J_iload_n hX dX6_placeNow_40 rfl 1 rfl ?_
      refine J_iconst hX (5 : Int32) dX6_placeNow_41 ic_5 ?_
      refine J_idiv0 hX dX6_placeNow_42 (by decide) ?_
      refine J_iaload hX dX6_placeNow_43 (ltn ltc_31 hn) lay_31 h (fun h => ?_)
      exact J_ireturn hX dX6_placeNow_44 h hF rfl
theorem c_X6_placeNow {G : GG} {l : Launch} {ρ : Nat → Nat} {n t u w v : Nat} {x : Option Nat} (hn : 126 ≤ n) {a : Nat} (ha : isSt a) {x1 : Int32} {m : Mm} {rE : Int32} {mE : Mm} (h : f_X6_placeNow a x1 m = some (rE, mE)) : CT G l yX6_placeNow cX6_placeNow 2 (some .int) 0 0 0 ρ n (RT t u w v x) [.ref a, .int x1] m (some (.int rE)) (RT t u w v x) mE := ct_of_J (by decide) rfl (Nat.le_of_ble_eq_true rfl) (fun X hX e1 e2 e3 e4 hQ hr hl => t_X6_placeNow hX (Nat.le_refl _) hn ha ⟨by rw [hQ, e3, e4], hr, hl⟩ h)
def f_X10_datum (t : Nat) (u : Nat) (w : Nat) (v : Nat) (x1 : Int32) (x2 : Int32) (m : Mm) : Option (Int32 × Mm) := bd2 (f_X10_isDatum t u w v x1 m) (fun r2 m1 => (if r2 = 0 then some ((-2 : Int32), m1) else gd (inb x1 160) ((if x2 = (0 : Int32) then some (((gI m1 36 (ix x1)) / (5 : Int32)), m1) else (if x2 = (1 : Int32) then some (((gI m1 36 (ix x1)) - (gI m1 36 (ix x1)) / (5 : Int32) * (5 : Int32)), m1) else (if x2 = (2 : Int32) then bd2 (f_X6_diskNow 54 (gI m1 36 (ix x1)) m1) (fun r4 m3 => some (r4, m3)) else (if x2 = (3 : Int32) then bd2 (f_X6_placeNow 54 (gI m1 36 (ix x1)) m1) (fun r6 m5 => some (r6, m5)) else some ((-2 : Int32), m1))))))))
theorem t_X10_datum {X : XX} {G : GG} {ρ : Nat → Nat} {n : Nat} {x : Option Nat} {d : Nat} {t : Nat} {u : Nat} {w : Nat} {v : Nat} (hX : Ok X G ρ cX10_datum 4 RX10 d) (hd0 : 1 ≤ d) (hn : 126 ≤ n) (ht : isTo t) (hu : isTo u) (hw : isWk w) (hv : isWk v) {rE : Int32} {mE : Mm} (hF : Fin' X G ρ n (some .int) (some (.int rE)) (RT t u w v x) mE) {x1 : Int32} {x2 : Int32} {m : Mm} (h : f_X10_datum t u w v x1 x2 m = some (rE, mE)) : J X G ρ n 4 0 [(0, .ref 0), (1, .int x1), (2, .int x2)] [] (RT t u w v x) m := by
  unfold f_X10_datum at h
  refine J_aload_n hX dX10_datum_0 rfl 0 rfl ?_
  refine J_iload_n hX dX10_datum_1 rfl 1 rfl ?_
  obtain ⟨r2, m1, h0, h⟩ := bd2_some h
  refine J_callVi (As := [.int x1]) (st := []) hX dX10_datum_2 cw_RX10_156 (by omega) (c_X10_isDatum hn ht hu hw hv h0) (ltn ltc_0 hn) lo_0 (by decide) rfl rfl rfl (Nat.le_of_ble_eq_true rfl) ?_
  clear h0
  refine J_if_ne hX 11 dX10_datum_5 (by decide) h (fun c h => ?_) (fun c h => ?_)
  · refine J_bipush hX (-2 : Int32) dX10_datum_8 (by decide) ?_
    exact J_ireturn hX dX10_datum_10 h hF rfl
  · refine J_aload_n hX dX10_datum_11 rfl 0 rfl ?_
    refine J_getR hX dX10_datum_12 fl_RX10_48 (ltn ltc_0 hn) lo_0 rfl (rt_0_6 _ _ _ _ _) ?_
    refine J_getR hX dX10_datum_15 fl_RX10_159 (ltn ltc_26 hn) lo_26 rfl (rt_26_12 _ _ _ _ _) ?_
    refine J_iload_n hX dX10_datum_18 rfl 1 rfl ?_
    refine J_iaload hX dX10_datum_19 (ltn ltc_36 hn) lay_36 h (fun h => ?_)
    refine J_istore_n hX [(3, .int (gI m1 36 (ix x1))), (0, .ref 0), (1, .int x1), (2, .int x2)] dX10_datum_20 rfl (by decide) rfl ?_
    refine J_iload_n hX dX10_datum_21 rfl 3 rfl ?_
    refine J_split h (fun c0 h => ?_) (fun c0 h => ?_)
    · refine J_tabIn hX 52 (0 : Int32) dX10_datum_22 c0 (by decide) (by decide) (by decide) (by decide) ?_
      refine J_iload_n hX dX10_datum_52 rfl 0 rfl ?_
      refine J_iconst hX (5 : Int32) dX10_datum_53 ic_5 ?_
      refine J_idiv0 hX dX10_datum_54 (by decide) ?_
      exact J_ireturn hX dX10_datum_55 h hF rfl
    · refine J_split h (fun c1 h => ?_) (fun c1 h => ?_)
      · refine J_tabIn hX 56 (1 : Int32) dX10_datum_22 c1 (by decide) (by decide) (by decide) (by decide) ?_
        refine J_iload_n hX dX10_datum_56 rfl 0 rfl ?_
        refine J_iconst hX (5 : Int32) dX10_datum_57 ic_5 ?_
        refine J_irem0 hX dX10_datum_58 (by decide) ?_
        exact J_ireturn hX dX10_datum_59 h hF rfl
      · refine J_split h (fun c2 h => ?_) (fun c2 h => ?_)
        · refine J_tabIn hX 60 (2 : Int32) dX10_datum_22 c2 (by decide) (by decide) (by decide) (by decide) ?_
          refine J_aload_n hX dX10_datum_60 rfl 1 rfl ?_
          refine J_getR hX dX10_datum_61 fl_RX10_60 (ltn ltc_0 hn) lo_0 rfl (rt_0_8 _ _ _ _ _) ?_
          refine J_iload_n hX dX10_datum_64 rfl 0 rfl ?_
          obtain ⟨r4, m3, h0, h⟩ := bd2_some h
          refine J_callVi (As := [.int (gI m1 36 (ix x1))]) (st := []) hX dX10_datum_65 cw_RX10_162 (by omega) (c_X6_diskNow hn p_isSt_54 h0) (ltn ltc_54 hn) lo_54 (by decide) rfl rfl rfl (Nat.le_of_ble_eq_true rfl) ?_
          clear h0
          exact J_ireturn hX dX10_datum_68 h hF rfl
        · refine J_split h (fun c3 h => ?_) (fun c3 h => ?_)
          · refine J_tabIn hX 69 (3 : Int32) dX10_datum_22 c3 (by decide) (by decide) (by decide) (by decide) ?_
            refine J_aload_n hX dX10_datum_69 rfl 1 rfl ?_
            refine J_getR hX dX10_datum_70 fl_RX10_60 (ltn ltc_0 hn) lo_0 rfl (rt_0_8 _ _ _ _ _) ?_
            refine J_iload_n hX dX10_datum_73 rfl 0 rfl ?_
            obtain ⟨r6, m5, h0, h⟩ := bd2_some h
            refine J_callVi (As := [.int (gI m1 36 (ix x1))]) (st := []) hX dX10_datum_74 cw_RX10_165 (by omega) (c_X6_placeNow hn p_isSt_54 h0) (ltn ltc_54 hn) lo_54 (by decide) rfl rfl rfl (Nat.le_of_ble_eq_true rfl) ?_
            clear h0
            exact J_ireturn hX dX10_datum_77 h hF rfl
          · refine J_tabOut hX 78 [(0 : Int32), (1 : Int32), (2 : Int32), (3 : Int32)] dX10_datum_22 (by decide) (by simp only [List.mem_cons, List.not_mem_nil, or_false, not_or]; exact ⟨c0, c1, c2, c3⟩) (by decide) ?_
            refine J_bipush hX (-2 : Int32) dX10_datum_78 (by decide) ?_
            exact J_ireturn hX dX10_datum_80 h hF rfl
theorem c_X10_datum {G : GG} {l : Launch} {ρ : Nat → Nat} {n : Nat} {x : Option Nat} (hn : 126 ≤ n) {t : Nat} {u : Nat} {w : Nat} {v : Nat} (ht : isTo t) (hu : isTo u) (hw : isWk w) (hv : isWk v) {x1 : Int32} {x2 : Int32} {m : Mm} {rE : Int32} {mE : Mm} (h : f_X10_datum t u w v x1 x2 m = some (rE, mE)) : CT G l yX10_datum cX10_datum 4 (some .int) 1 0 0 ρ n (RT t u w v x) [.ref 0, .int x1, .int x2] m (some (.int rE)) (RT t u w v x) mE := ct_of_J (by decide) rfl (Nat.le_of_ble_eq_true rfl) (fun X hX e1 e2 e3 e4 hQ hr hl => t_X10_datum hX (Nat.le_refl _) hn ht hu hw hv ⟨by rw [hQ, e3, e4], hr, hl⟩ h)
def f_X11_datum (x1 : Int32) (x2 : Int32) (m : Mm) : Option (Int32 × Mm) := stI m 78 0 (0 : Int32) (fun m1 => bd2 (f_X11_isDatum x1 m1) (fun r3 m2 => (if r3 = 0 then some ((-2 : Int32), m2) else bd2 (f_X11_within x2 (0 : Int32) (3 : Int32) m2) (fun r5 m4 => (if r5 = 0 then some ((-2 : Int32), m4) else gd (inb x1 320) ((if x2 < (2 : Int32) then (if x2 = 0 then some (((gI m4 107 (ix x1)) / (5 : Int32)), m4) else some (((gI m4 107 (ix x1)) - (gI m4 107 (ix x1)) / (5 : Int32) * (5 : Int32)), m4)) else (if x2 = (2 : Int32) then bd2 (f_X11_diskNow (gI m4 107 (ix x1)) m4) (fun r7 m6 => some (r7, m6)) else gd (inb ((14 : Int32) + (gI m4 107 (ix x1))) 374) ((if (gI m4 117 (ix ((14 : Int32) + (gI m4 107 (ix x1))))) = (2 : Int32) then bd2 (f_X11_diskNow (gI m4 107 (ix x1)) m4) (fun r9 m8 => some (r9, m8)) else gd (inb ((14 : Int32) + (gI m4 107 (ix x1))) 374) ((if (gI m4 117 (ix ((14 : Int32) + (gI m4 107 (ix x1))))) = (1 : Int32) then gd (inb ((gI m4 107 (ix x1)) / (5 : Int32)) 80) (some ((gI m4 104 (ix ((gI m4 107 (ix x1)) / (5 : Int32)))), m4)) else gd (inb (gI m4 107 (ix x1)) 400) (some ((gI m4 106 (ix (gI m4 107 (ix x1)))), m4))))))))))))))
theorem t_X11_datum {X : XX} {G : GG} {ρ : Nat → Nat} {n t u w v : Nat} {x : Option Nat} {d : Nat} (hX : Ok X G ρ cX11_datum 4 RX11 d) (hd0 : 1 ≤ d) (hn : 126 ≤ n) {rE : Int32} {mE : Mm} (hF : Fin' X G ρ n (some .int) (some (.int rE)) (RT t u w v x) mE) {x1 : Int32} {x2 : Int32} {m : Mm} (h : f_X11_datum x1 x2 m = some (rE, mE)) : J X G ρ n 4 0 [(0, .ref 78), (1, .int x1), (2, .int x2)] [] (RT t u w v x) m := by
  unfold f_X11_datum at h
  refine J_aload_n hX dX11_datum_0 rfl 0 rfl ?_
  refine J_iconst hX (0 : Int32) dX11_datum_1 ic_0 ?_
  refine J_putI hX dX11_datum_2 pl_RX11_152 (ltn ltc_78 hn) lo_78 rfl rfl rfl h (fun m1 h => ?_)
  refine J_aload_n hX dX11_datum_5 rfl 0 rfl ?_
  refine J_iload_n hX dX11_datum_6 rfl 1 rfl ?_
  obtain ⟨r3, m2, h0, h⟩ := bd2_some h
  refine J_callVi (As := [.int x1]) (st := []) hX dX11_datum_7 cw_RX11_382 (by omega) (c_X11_isDatum hn  h0) (ltn ltc_78 hn) lo_78 (by decide) rfl rfl rfl (Nat.le_of_ble_eq_true rfl) ?_
  clear h0
  refine J_if_eq hX 22 dX11_datum_10 (by decide) h (fun c h => ?_) (fun c h => ?_)
  · refine J_bipush hX (-2 : Int32) dX11_datum_22 (by decide) ?_
    exact J_ireturn hX dX11_datum_24 h hF rfl
  · refine J_iload_n hX dX11_datum_13 rfl 2 rfl ?_
    refine J_iconst hX (0 : Int32) dX11_datum_14 ic_0 ?_
    refine J_iconst hX (3 : Int32) dX11_datum_15 ic_3 ?_
    obtain ⟨r5, m4, h0, h⟩ := bd2_some h
    refine J_callSi (As := [.int x2, .int (0 : Int32), .int (3 : Int32)]) (st := []) hX dX11_datum_16 cw_RX11_239 (by omega) (c_X11_within hn  h0) rfl rfl (Nat.le_of_ble_eq_true rfl) ?_
    clear h0
    refine J_if_ne hX 25 dX11_datum_19 (by decide) h (fun c h => ?_) (fun c h => ?_)
    · refine J_bipush hX (-2 : Int32) dX11_datum_22 (by decide) ?_
      exact J_ireturn hX dX11_datum_24 h hF rfl
    · refine J_aload_n hX dX11_datum_25 rfl 0 rfl ?_
      refine J_getR hX dX11_datum_26 fl_RX11_95 (ltn ltc_78 hn) lo_78 rfl (rt_78_40 _ _ _ _ _) ?_
      refine J_iload_n hX dX11_datum_29 rfl 1 rfl ?_
      refine J_iaload hX dX11_datum_30 (ltn ltc_107 hn) lay_107 h (fun h => ?_)
      refine J_istore_n hX [(3, .int (gI m4 107 (ix x1))), (0, .ref 78), (1, .int x1), (2, .int x2)] dX11_datum_31 rfl (by decide) rfl ?_
      refine J_iload_n hX dX11_datum_32 rfl 3 rfl ?_
      refine J_iconst hX (2 : Int32) dX11_datum_33 ic_2 ?_
      refine J_icmp_ge hX 51 dX11_datum_34 (by decide) h (fun c h => ?_) (fun c h => ?_)
      · refine J_iload_n hX dX11_datum_37 rfl 3 rfl ?_
        refine J_if_ne hX 47 dX11_datum_38 (by decide) h (fun c h => ?_) (fun c h => ?_)
        · refine J_iload_n hX dX11_datum_41 rfl 0 rfl ?_
          refine J_iconst hX (5 : Int32) dX11_datum_42 ic_5 ?_
          refine J_idiv0 hX dX11_datum_43 (by decide) ?_
          refine J_goto hX 50 dX11_datum_44 (by decide) ?_
          exact J_ireturn hX dX11_datum_50 h hF rfl
        · refine J_iload_n hX dX11_datum_47 rfl 0 rfl ?_
          refine J_iconst hX (5 : Int32) dX11_datum_48 ic_5 ?_
          refine J_irem0 hX dX11_datum_49 (by decide) ?_
          exact J_ireturn hX dX11_datum_50 h hF rfl
      · refine J_iload_n hX dX11_datum_51 rfl 3 rfl ?_
        refine J_iconst hX (2 : Int32) dX11_datum_52 ic_2 ?_
        refine J_icmp_eq hX 69 dX11_datum_53 (by decide) h (fun c h => ?_) (fun c h => ?_)
        · refine J_aload_n hX dX11_datum_69 rfl 1 rfl ?_
          refine J_iload_n hX dX11_datum_70 rfl 0 rfl ?_
          obtain ⟨r7, m6, h0, h⟩ := bd2_some h
          refine J_callVi (As := [.int (gI m4 107 (ix x1))]) (st := []) hX dX11_datum_71 cw_RX11_358 (by omega) (c_X11_diskNow hn  h0) (ltn ltc_78 hn) lo_78 (by decide) rfl rfl rfl (Nat.le_of_ble_eq_true rfl) ?_
          clear h0
          exact J_ireturn hX dX11_datum_74 h hF rfl
        · refine J_aload_n hX dX11_datum_56 rfl 1 rfl ?_
          refine J_getR hX dX11_datum_57 fl_RX11_125 (ltn ltc_78 hn) lo_78 rfl (rt_78_50 _ _ _ _ _) ?_
          refine J_bipush hX (14 : Int32) dX11_datum_60 (by decide) ?_
          refine J_iload_n hX dX11_datum_62 rfl 0 rfl ?_
          refine J_iadd hX dX11_datum_63 ?_
          refine J_iaload hX dX11_datum_64 (ltn ltc_117 hn) lay_117 h (fun h => ?_)
          refine J_iconst hX (2 : Int32) dX11_datum_65 ic_2 ?_
          refine J_icmp_ne hX 75 dX11_datum_66 (by decide) h (fun c h => ?_) (fun c h => ?_)
          · refine J_aload_n hX dX11_datum_69 rfl 1 rfl ?_
            refine J_iload_n hX dX11_datum_70 rfl 0 rfl ?_
            obtain ⟨r9, m8, h0, h⟩ := bd2_some h
            refine J_callVi (As := [.int (gI m4 107 (ix x1))]) (st := []) hX dX11_datum_71 cw_RX11_358 (by omega) (c_X11_diskNow hn  h0) (ltn ltc_78 hn) lo_78 (by decide) rfl rfl rfl (Nat.le_of_ble_eq_true rfl) ?_
            clear h0
            exact J_ireturn hX dX11_datum_74 h hF rfl
          · refine J_aload_n hX dX11_datum_75 rfl 1 rfl ?_
            refine J_getR hX dX11_datum_76 fl_RX11_125 (ltn ltc_78 hn) lo_78 rfl (rt_78_50 _ _ _ _ _) ?_
            refine J_bipush hX (14 : Int32) dX11_datum_79 (by decide) ?_
            refine J_iload_n hX dX11_datum_81 rfl 0 rfl ?_
            refine J_iadd hX dX11_datum_82 ?_
            refine J_iaload hX dX11_datum_83 (ltn ltc_117 hn) lay_117 h (fun h => ?_)
            refine J_iconst hX (1 : Int32) dX11_datum_84 ic_1 ?_
            refine J_icmp_ne hX 99 dX11_datum_85 (by decide) h (fun c h => ?_) (fun c h => ?_)
            · refine J_aload_n hX dX11_datum_88 rfl 1 rfl ?_
              refine J_getR hX dX11_datum_89 fl_RX11_86 (ltn ltc_78 hn) lo_78 rfl (rt_78_37 _ _ _ _ _) ?_
              refine J_iload_n hX dX11_datum_92 rfl 0 rfl ?_
              refine J_iconst hX (5 : Int32) dX11_datum_93 ic_5 ?_
              refine J_idiv0 hX dX11_datum_94 (by decide) ?_
              refine J_iaload hX dX11_datum_95 (ltn ltc_104 hn) lay_104 h (fun h => ?_)
              refine J_goto hX 105 dX11_datum_96 (by decide) ?_
              exact J_ireturn hX dX11_datum_105 h hF rfl
            · refine J_aload_n hX dX11_datum_99 rfl 1 rfl ?_
              refine J_getR hX dX11_datum_100 fl_RX11_92 (ltn ltc_78 hn) lo_78 rfl (rt_78_39 _ _ _ _ _) ?_
              refine J_iload_n hX dX11_datum_103 rfl 0 rfl ?_
              refine J_iaload hX dX11_datum_104 (ltn ltc_106 hn) lay_106 h (fun h => ?_)
              exact J_ireturn hX dX11_datum_105 h hF rfl
theorem c_X11_datum {G : GG} {l : Launch} {ρ : Nat → Nat} {n t u w v : Nat} {x : Option Nat} (hn : 126 ≤ n) {x1 : Int32} {x2 : Int32} {m : Mm} {rE : Int32} {mE : Mm} (h : f_X11_datum x1 x2 m = some (rE, mE)) : CT G l yX11_datum cX11_datum 4 (some .int) 1 0 0 ρ n (RT t u w v x) [.ref 78, .int x1, .int x2] m (some (.int rE)) (RT t u w v x) mE := ct_of_J (by decide) rfl (Nat.le_of_ble_eq_true rfl) (fun X hX e1 e2 e3 e4 hQ hr hl => t_X11_datum hX (Nat.le_refl _) hn ⟨by rw [hQ, e3, e4], hr, hl⟩ h)
def f_X4_heldAt_L41 (a : Nat) (v1 : Int32) (v2 : Int32) (v3 : Int32) (K : Mm → Option (Int32 × Mm)) : Nat → Int32 → Mm → Option (Int32 × Mm)
  | 0, _, _ => none
  | k + 1, v4, m => gd (inb v3 40) ((if v4 < (gI m (a + 1) (ix v3)) then gd (inb ((v3 * (5 : Int32)) + v4) 200) ((if (gI m (a + 7) (ix ((v3 * (5 : Int32)) + v4))) = v1 then gd (inb ((v3 * (5 : Int32)) + v4) 200) ((if (gI m (a + 8) (ix ((v3 * (5 : Int32)) + v4))) = v2 then some (((v3 * (8 : Int32)) + v4), m) else f_X4_heldAt_L41 a v1 v2 v3 K k (v4 + (1 : Int32)) m)) else f_X4_heldAt_L41 a v1 v2 v3 K k (v4 + (1 : Int32)) m)) else K  m))
theorem t_X4_heldAt_L41 {X : XX} {G : GG} {ρ : Nat → Nat} {n t u w v : Nat} {x : Option Nat} {d : Nat} {a : Nat} (hX : Ok X G ρ cX4_heldAt 6 RX4 d) (hd0 : 0 ≤ d) (hn : 126 ≤ n) (ha : isLa a) {rE : Int32} {mE : Mm} (hF : Fin' X G ρ n (some .int) (some (.int rE)) (RT t u w v x) mE) {v1 : Int32} {v2 : Int32} {v3 : Int32} {K : Mm → Option (Int32 × Mm)} (hK : ∀ (m : Mm), K m = some (rE, mE) → J X G ρ n 6 96 [(0, .ref a), (1, .int v1), (2, .int v2), (3, .int v3)] [] (RT t u w v x) m) : ∀ (k : Nat) (v4 : Int32) (m : Mm), f_X4_heldAt_L41 a v1 v2 v3 K k v4 m = some (rE, mE) → J X G ρ n 6 41 [(0, .ref a), (1, .int v1), (2, .int v2), (3, .int v3), (4, .int v4)] [] (RT t u w v x) m := by
  intro k
  induction k with
  | zero => intro _ _ h; rw [f_X4_heldAt_L41] at h; cases h
  | succ k ih =>
    intro v4 m h
    rw [f_X4_heldAt_L41] at h
    refine J_iload hX dX4_heldAt_41 4 rfl ?_
    refine J_aload_n hX dX4_heldAt_43 rfl 0 rfl ?_
    refine J_getR hX dX4_heldAt_44 fl_RX4_9 (ltn (lt_isLa_0 ha) hn) (lo_isLa_0 ha) rfl (rt_isLa_0_3 _ _ _ _ _ ha) ?_
    refine J_iload_n hX dX4_heldAt_47 rfl 3 rfl ?_
    refine J_iaload hX dX4_heldAt_48 (ltn (lt_isLa_1 ha) hn) (lay_isLa_1 ha) h (fun h => ?_)
    refine J_icmp_ge hX 96 dX4_heldAt_49 (by decide) h (fun c h => ?_) (fun c h => ?_)
    · refine J_iload_n hX dX4_heldAt_52 rfl 3 rfl ?_
      refine J_iconst hX (5 : Int32) dX4_heldAt_53 ic_5 ?_
      refine J_imul hX dX4_heldAt_54 ?_
      refine J_iload hX dX4_heldAt_55 4 rfl ?_
      refine J_iadd hX dX4_heldAt_57 ?_
      refine J_istore hX [(5, .int ((v3 * (5 : Int32)) + v4)), (0, .ref a), (1, .int v1), (2, .int v2), (3, .int v3), (4, .int v4)] dX4_heldAt_58 (by decide) rfl ?_
      refine J_aload_n hX dX4_heldAt_60 rfl 1 rfl ?_
      refine J_getR hX dX4_heldAt_61 fl_RX4_30 (ltn (lt_isLa_0 ha) hn) (lo_isLa_0 ha) rfl (rt_isLa_0_9 _ _ _ _ _ ha) ?_
      refine J_iload hX dX4_heldAt_64 0 rfl ?_
      refine J_iaload hX dX4_heldAt_66 (ltn (lt_isLa_7 ha) hn) (lay_isLa_7 ha) h (fun h => ?_)
      refine J_iload_n hX dX4_heldAt_67 rfl 2 rfl ?_
      refine J_icmp_ne hX 90 dX4_heldAt_68 (by decide) h (fun c h => ?_) (fun c h => ?_)
      · refine J_aload_n hX dX4_heldAt_71 rfl 1 rfl ?_
        refine J_getR hX dX4_heldAt_72 fl_RX4_33 (ltn (lt_isLa_0 ha) hn) (lo_isLa_0 ha) rfl (rt_isLa_0_10 _ _ _ _ _ ha) ?_
        refine J_iload hX dX4_heldAt_75 0 rfl ?_
        refine J_iaload hX dX4_heldAt_77 (ltn (lt_isLa_8 ha) hn) (lay_isLa_8 ha) h (fun h => ?_)
        refine J_iload_n hX dX4_heldAt_78 rfl 3 rfl ?_
        refine J_icmp_ne hX 90 dX4_heldAt_79 (by decide) h (fun c h => ?_) (fun c h => ?_)
        · refine J_iload_n hX dX4_heldAt_82 rfl 4 rfl ?_
          refine J_bipush hX (8 : Int32) dX4_heldAt_83 (by decide) ?_
          refine J_imul hX dX4_heldAt_85 ?_
          refine J_iload hX dX4_heldAt_86 5 rfl ?_
          refine J_iadd hX dX4_heldAt_88 ?_
          exact J_ireturn hX dX4_heldAt_89 h hF rfl
        · refine J_iinc hX (v4 + (1 : Int32)) [(4, .int (v4 + (1 : Int32))), (5, .int ((v3 * (5 : Int32)) + v4)), (0, .ref a), (1, .int v1), (2, .int v2), (3, .int v3)] dX4_heldAt_90 5 rfl (congrArg (fun z => v4 + z) ic_1) (by decide) rfl ?_
          refine J_goto hX 41 dX4_heldAt_93 (by decide) ?_
          refine J_sub [(0, .ref a), (1, .int v1), (2, .int v2), (3, .int v3), (4, .int (v4 + (1 : Int32)))] [2, 3, 4, 5, 0] rfl ?_
          exact ih (v4 + (1 : Int32)) m h
      · refine J_iinc hX (v4 + (1 : Int32)) [(4, .int (v4 + (1 : Int32))), (5, .int ((v3 * (5 : Int32)) + v4)), (0, .ref a), (1, .int v1), (2, .int v2), (3, .int v3)] dX4_heldAt_90 5 rfl (congrArg (fun z => v4 + z) ic_1) (by decide) rfl ?_
        refine J_goto hX 41 dX4_heldAt_93 (by decide) ?_
        refine J_sub [(0, .ref a), (1, .int v1), (2, .int v2), (3, .int v3), (4, .int (v4 + (1 : Int32)))] [2, 3, 4, 5, 0] rfl ?_
        exact ih (v4 + (1 : Int32)) m h
    · refine J_sub [(0, .ref a), (1, .int v1), (2, .int v2), (3, .int v3)] [0, 1, 2, 3] rfl ?_
      exact hK  m h
def f_X4_heldAt_J38 (a : Nat) (K2 : Int32 → Int32 → Int32 → Mm → Option (Int32 × Mm)) (v1 : Int32) (v2 : Int32) (v3 : Int32) (m : Mm) : Option (Int32 × Mm) := f_X4_heldAt_L41 a v1 v2 v3 (fun m1 => K2 v1 v2 (v3 + (1 : Int32)) m1) FU (0 : Int32) m
theorem t_X4_heldAt_J38 {X : XX} {G : GG} {ρ : Nat → Nat} {n t u w v : Nat} {x : Option Nat} {d : Nat} {a : Nat} (hX : Ok X G ρ cX4_heldAt 6 RX4 d) (hd0 : 0 ≤ d) (hn : 126 ≤ n) (ha : isLa a) {rE : Int32} {mE : Mm} (hF : Fin' X G ρ n (some .int) (some (.int rE)) (RT t u w v x) mE) {K2 : Int32 → Int32 → Int32 → Mm → Option (Int32 × Mm)} (v1 : Int32) (v2 : Int32) (v3 : Int32) (hK2 : ∀ (w1 : Int32) (w2 : Int32) (w3 : Int32) (m : Mm), K2 w1 w2 w3 m = some (rE, mE) → J X G ρ n 6 2 [(0, .ref a), (1, .int w1), (2, .int w2), (3, .int w3)] [] (RT t u w v x) m) (m : Mm) (h : f_X4_heldAt_J38 a K2 v1 v2 v3 m = some (rE, mE)) : J X G ρ n 6 38 [(0, .ref a), (1, .int v1), (2, .int v2), (3, .int v3)] [] (RT t u w v x) m := by
  unfold f_X4_heldAt_J38 at h
  refine J_iconst hX (0 : Int32) dX4_heldAt_38 ic_0 ?_
  refine J_istore hX [(4, .int (0 : Int32)), (0, .ref a), (1, .int v1), (2, .int v2), (3, .int v3)] dX4_heldAt_39 (by decide) rfl ?_
  refine J_sub [(0, .ref a), (1, .int v1), (2, .int v2), (3, .int v3), (4, .int (0 : Int32))] [1, 2, 3, 4, 0] rfl ?_
  refine t_X4_heldAt_L41 hX hd0 hn ha hF (fun m1 h => ?_) FU (0 : Int32) m h
  refine J_iinc hX (v3 + (1 : Int32)) [(3, .int (v3 + (1 : Int32))), (0, .ref a), (1, .int v1), (2, .int v2)] dX4_heldAt_96 3 rfl (congrArg (fun z => v3 + z) ic_1) (by decide) rfl ?_
  refine J_goto hX 2 dX4_heldAt_99 (by decide) ?_
  refine J_sub [(0, .ref a), (1, .int v1), (2, .int v2), (3, .int (v3 + (1 : Int32)))] [1, 2, 3, 0] rfl ?_
  exact hK2 v1 v2 (v3 + (1 : Int32)) m1 h
def f_X4_heldAt_L2 (a : Nat) : Nat → Int32 → Int32 → Int32 →  Mm → Option (Int32 × Mm)
  | 0, _, _, _, _ => none
  | k + 1, v1, v2, v3, m => (if v3 < (gI m a 1) then gd (inb v3 40) ((if (gI m (a + 4) (ix v3)) = v1 then gd (inb v3 40) ((if (gI m (a + 5) (ix v3)) = v2 then some (((v3 * (8 : Int32)) + (7 : Int32)), m) else f_X4_heldAt_J38 a (fun w1 w2 w3 m => f_X4_heldAt_L2 a k w1 w2 w3 m) v1 v2 v3 m)) else f_X4_heldAt_J38 a (fun w1 w2 w3 m => f_X4_heldAt_L2 a k w1 w2 w3 m) v1 v2 v3 m)) else some ((-1 : Int32), m))
theorem t_X4_heldAt_L2 {X : XX} {G : GG} {ρ : Nat → Nat} {n t u w v : Nat} {x : Option Nat} {d : Nat} {a : Nat} (hX : Ok X G ρ cX4_heldAt 6 RX4 d) (hd0 : 0 ≤ d) (hn : 126 ≤ n) (ha : isLa a) {rE : Int32} {mE : Mm} (hF : Fin' X G ρ n (some .int) (some (.int rE)) (RT t u w v x) mE) : ∀ (k : Nat) (v1 : Int32) (v2 : Int32) (v3 : Int32) (m : Mm), f_X4_heldAt_L2 a k v1 v2 v3 m = some (rE, mE) → J X G ρ n 6 2 [(0, .ref a), (1, .int v1), (2, .int v2), (3, .int v3)] [] (RT t u w v x) m := by
  intro k
  induction k with
  | zero => intro _ _ _ _ h; rw [f_X4_heldAt_L2] at h; cases h
  | succ k ih =>
    intro v1 v2 v3 m h
    rw [f_X4_heldAt_L2] at h
    refine J_iload_n hX dX4_heldAt_2 rfl 3 rfl ?_
    refine J_aload_n hX dX4_heldAt_3 rfl 0 rfl ?_
    refine J_getI hX dX4_heldAt_4 fl_RX4_72 (ltn (lt_isLa_0 ha) hn) (lo_isLa_0 ha) rfl ?_
    refine J_icmp_ge hX 102 dX4_heldAt_7 (by decide) h (fun c h => ?_) (fun c h => ?_)
    · refine J_aload_n hX dX4_heldAt_10 rfl 0 rfl ?_
      refine J_getR hX dX4_heldAt_11 fl_RX4_21 (ltn (lt_isLa_0 ha) hn) (lo_isLa_0 ha) rfl (rt_isLa_0_6 _ _ _ _ _ ha) ?_
      refine J_iload_n hX dX4_heldAt_14 rfl 3 rfl ?_
      refine J_iaload hX dX4_heldAt_15 (ltn (lt_isLa_4 ha) hn) (lay_isLa_4 ha) h (fun h => ?_)
      refine J_iload_n hX dX4_heldAt_16 rfl 1 rfl ?_
      refine J_icmp_ne hX 38 dX4_heldAt_17 (by decide) h (fun c h => ?_) (fun c h => ?_)
      · refine J_aload_n hX dX4_heldAt_20 rfl 0 rfl ?_
        refine J_getR hX dX4_heldAt_21 fl_RX4_24 (ltn (lt_isLa_0 ha) hn) (lo_isLa_0 ha) rfl (rt_isLa_0_7 _ _ _ _ _ ha) ?_
        refine J_iload_n hX dX4_heldAt_24 rfl 3 rfl ?_
        refine J_iaload hX dX4_heldAt_25 (ltn (lt_isLa_5 ha) hn) (lay_isLa_5 ha) h (fun h => ?_)
        refine J_iload_n hX dX4_heldAt_26 rfl 2 rfl ?_
        refine J_icmp_ne hX 38 dX4_heldAt_27 (by decide) h (fun c h => ?_) (fun c h => ?_)
        · refine J_iload_n hX dX4_heldAt_30 rfl 3 rfl ?_
          refine J_bipush hX (8 : Int32) dX4_heldAt_31 (by decide) ?_
          refine J_imul hX dX4_heldAt_33 ?_
          refine J_bipush hX (7 : Int32) dX4_heldAt_34 (by decide) ?_
          refine J_iadd hX dX4_heldAt_36 ?_
          exact J_ireturn hX dX4_heldAt_37 h hF rfl
        · exact t_X4_heldAt_J38 hX hd0 hn ha hF v1 v2 v3 (fun w1 w2 w3 m h => ih w1 w2 w3 m h) m h
      · exact t_X4_heldAt_J38 hX hd0 hn ha hF v1 v2 v3 (fun w1 w2 w3 m h => ih w1 w2 w3 m h) m h
    · refine J_iconst hX (-1 : Int32) dX4_heldAt_102 ic_m1 ?_
      exact J_ireturn hX dX4_heldAt_103 h hF rfl
def f_X4_heldAt (a : Nat) (x1 : Int32) (x2 : Int32) (m : Mm) : Option (Int32 × Mm) := f_X4_heldAt_L2 a FU x1 x2 (0 : Int32)  m
theorem t_X4_heldAt {X : XX} {G : GG} {ρ : Nat → Nat} {n t u w v : Nat} {x : Option Nat} {d : Nat} {a : Nat} (hX : Ok X G ρ cX4_heldAt 6 RX4 d) (hd0 : 0 ≤ d) (hn : 126 ≤ n) (ha : isLa a) {rE : Int32} {mE : Mm} (hF : Fin' X G ρ n (some .int) (some (.int rE)) (RT t u w v x) mE) {x1 : Int32} {x2 : Int32} {m : Mm} (h : f_X4_heldAt a x1 x2 m = some (rE, mE)) : J X G ρ n 6 0 [(0, .ref a), (1, .int x1), (2, .int x2)] [] (RT t u w v x) m := by
  unfold f_X4_heldAt at h
  refine J_iconst hX (0 : Int32) dX4_heldAt_0 ic_0 ?_
  refine J_istore_n hX [(3, .int (0 : Int32)), (0, .ref a), (1, .int x1), (2, .int x2)] dX4_heldAt_1 rfl (by decide) rfl ?_
  refine J_sub [(0, .ref a), (1, .int x1), (2, .int x2), (3, .int (0 : Int32))] [1, 2, 3, 0] rfl ?_
  exact t_X4_heldAt_L2 hX hd0 hn ha hF FU x1 x2 (0 : Int32)  m h
theorem c_X4_heldAt {G : GG} {l : Launch} {ρ : Nat → Nat} {n t u w v : Nat} {x : Option Nat} (hn : 126 ≤ n) {a : Nat} (ha : isLa a) {x1 : Int32} {x2 : Int32} {m : Mm} {rE : Int32} {mE : Mm} (h : f_X4_heldAt a x1 x2 m = some (rE, mE)) : CT G l yX4_heldAt cX4_heldAt 6 (some .int) 0 0 0 ρ n (RT t u w v x) [.ref a, .int x1, .int x2] m (some (.int rE)) (RT t u w v x) mE := ct_of_J (by decide) rfl (Nat.le_of_ble_eq_true rfl) (fun X hX e1 e2 e3 e4 hQ hr hl => t_X4_heldAt hX (Nat.le_refl _) hn ha ⟨by rw [hQ, e3, e4], hr, hl⟩ h)
def f_X10_at (t : Nat) (u : Nat) (w : Nat) (v : Nat) (x1 : Int32) (x2 : Int32) (m : Mm) : Option (Int32 × Mm) := bd2 (f_X10_isDisk t u w v x1 m) (fun r2 m1 => (if r2 = 0 then some ((-1 : Int32), m1) else bd2 (f_X4_heldAt 26 x1 x2 m1) (fun r4 m3 => some (r4, m3))))
theorem t_X10_at {X : XX} {G : GG} {ρ : Nat → Nat} {n : Nat} {x : Option Nat} {d : Nat} {t : Nat} {u : Nat} {w : Nat} {v : Nat} (hX : Ok X G ρ cX10_at 3 RX10 d) (hd0 : 1 ≤ d) (hn : 126 ≤ n) (ht : isTo t) (hu : isTo u) (hw : isWk w) (hv : isWk v) {rE : Int32} {mE : Mm} (hF : Fin' X G ρ n (some .int) (some (.int rE)) (RT t u w v x) mE) {x1 : Int32} {x2 : Int32} {m : Mm} (h : f_X10_at t u w v x1 x2 m = some (rE, mE)) : J X G ρ n 3 0 [(0, .ref 0), (1, .int x1), (2, .int x2)] [] (RT t u w v x) m := by
  unfold f_X10_at at h
  refine J_aload_n hX dX10_at_0 rfl 0 rfl ?_
  refine J_iload_n hX dX10_at_1 rfl 1 rfl ?_
  obtain ⟨r2, m1, h0, h⟩ := bd2_some h
  refine J_callVi (As := [.int x1]) (st := []) hX dX10_at_2 cw_RX10_168 (by omega) (c_X10_isDisk hn ht hu hw hv h0) (ltn ltc_0 hn) lo_0 (by decide) rfl rfl rfl (Nat.le_of_ble_eq_true rfl) ?_
  clear h0
  refine J_if_eq hX 20 dX10_at_5 (by decide) h (fun c h => ?_) (fun c h => ?_)
  · refine J_iconst hX (-1 : Int32) dX10_at_20 ic_m1 ?_
    exact J_ireturn hX dX10_at_21 h hF rfl
  · refine J_aload_n hX dX10_at_8 rfl 0 rfl ?_
    refine J_getR hX dX10_at_9 fl_RX10_48 (ltn ltc_0 hn) lo_0 rfl (rt_0_6 _ _ _ _ _) ?_
    refine J_iload_n hX dX10_at_12 rfl 1 rfl ?_
    refine J_iload_n hX dX10_at_13 rfl 2 rfl ?_
    obtain ⟨r4, m3, h0, h⟩ := bd2_some h
    refine J_callVi (As := [.int x1, .int x2]) (st := []) hX dX10_at_14 cw_RX10_171 (by omega) (c_X4_heldAt hn p_isLa_26 h0) (ltn ltc_26 hn) lo_26 (by decide) rfl rfl rfl (Nat.le_of_ble_eq_true rfl) ?_
    clear h0
    refine J_goto hX 21 dX10_at_17 (by decide) ?_
    exact J_ireturn hX dX10_at_21 h hF rfl
theorem c_X10_at {G : GG} {l : Launch} {ρ : Nat → Nat} {n : Nat} {x : Option Nat} (hn : 126 ≤ n) {t : Nat} {u : Nat} {w : Nat} {v : Nat} (ht : isTo t) (hu : isTo u) (hw : isWk w) (hv : isWk v) {x1 : Int32} {x2 : Int32} {m : Mm} {rE : Int32} {mE : Mm} (h : f_X10_at t u w v x1 x2 m = some (rE, mE)) : CT G l yX10_at cX10_at 3 (some .int) 1 0 0 ρ n (RT t u w v x) [.ref 0, .int x1, .int x2] m (some (.int rE)) (RT t u w v x) mE := ct_of_J (by decide) rfl (Nat.le_of_ble_eq_true rfl) (fun X hX e1 e2 e3 e4 hQ hr hl => t_X10_at hX (Nat.le_refl _) hn ht hu hw hv ⟨by rw [hQ, e3, e4], hr, hl⟩ h)
def f_X11_at_J67 (K21 : Int32 → Int32 → Int32 → Mm → Option (Int32 × Mm)) (v1 : Int32) (v2 : Int32) (v3 : Int32) (m : Mm) : Option (Int32 × Mm) := gd (inb v3 80) ((if (gI m 103 (ix v3)) = v1 then gd (inb v3 80) ((if (gI m 104 (ix v3)) = v2 then some ((((8 : Int32) * v3) + (7 : Int32)), m) else K21 v1 v2 (v3 + (1 : Int32)) m)) else K21 v1 v2 (v3 + (1 : Int32)) m))
theorem t_X11_at_J67 {X : XX} {G : GG} {ρ : Nat → Nat} {n t u w v : Nat} {x : Option Nat} {d : Nat} (hX : Ok X G ρ cX11_at 5 RX11 d) (hd0 : 1 ≤ d) (hn : 126 ≤ n) {rE : Int32} {mE : Mm} (hF : Fin' X G ρ n (some .int) (some (.int rE)) (RT t u w v x) mE) {K21 : Int32 → Int32 → Int32 → Mm → Option (Int32 × Mm)} (v1 : Int32) (v2 : Int32) (v3 : Int32) (hK21 : ∀ (w1 : Int32) (w2 : Int32) (w3 : Int32) (m : Mm), K21 w1 w2 w3 m = some (rE, mE) → J X G ρ n 5 21 [(0, .ref 78), (1, .int w1), (2, .int w2), (3, .int w3)] [] (RT t u w v x) m) (m : Mm) (h : f_X11_at_J67 K21 v1 v2 v3 m = some (rE, mE)) : J X G ρ n 5 67 [(0, .ref 78), (1, .int v1), (2, .int v2), (3, .int v3)] [] (RT t u w v x) m := by
  unfold f_X11_at_J67 at h
  refine J_aload_n hX dX11_at_67 rfl 0 rfl ?_
  refine J_getR hX dX11_at_68 fl_RX11_83 (ltn ltc_78 hn) lo_78 rfl (rt_78_36 _ _ _ _ _) ?_
  refine J_iload_n hX dX11_at_71 rfl 3 rfl ?_
  refine J_iaload hX dX11_at_72 (ltn ltc_103 hn) lay_103 h (fun h => ?_)
  refine J_iload_n hX dX11_at_73 rfl 1 rfl ?_
  refine J_icmp_ne hX 95 dX11_at_74 (by decide) h (fun c h => ?_) (fun c h => ?_)
  · refine J_aload_n hX dX11_at_77 rfl 0 rfl ?_
    refine J_getR hX dX11_at_78 fl_RX11_86 (ltn ltc_78 hn) lo_78 rfl (rt_78_37 _ _ _ _ _) ?_
    refine J_iload_n hX dX11_at_81 rfl 3 rfl ?_
    refine J_iaload hX dX11_at_82 (ltn ltc_104 hn) lay_104 h (fun h => ?_)
    refine J_iload_n hX dX11_at_83 rfl 2 rfl ?_
    refine J_icmp_ne hX 95 dX11_at_84 (by decide) h (fun c h => ?_) (fun c h => ?_)
    · refine J_bipush hX (8 : Int32) dX11_at_87 (by decide) ?_
      refine J_iload_n hX dX11_at_89 rfl 3 rfl ?_
      refine J_imul hX dX11_at_90 ?_
      refine J_bipush hX (7 : Int32) dX11_at_91 (by decide) ?_
      refine J_iadd hX dX11_at_93 ?_
      exact J_ireturn hX dX11_at_94 h hF rfl
    · refine J_iinc hX (v3 + (1 : Int32)) [(3, .int (v3 + (1 : Int32))), (0, .ref 78), (1, .int v1), (2, .int v2)] dX11_at_95 3 rfl (congrArg (fun z => v3 + z) ic_1) (by decide) rfl ?_
      refine J_goto hX 21 dX11_at_98 (by decide) ?_
      refine J_sub [(0, .ref 78), (1, .int v1), (2, .int v2), (3, .int (v3 + (1 : Int32)))] [1, 2, 3, 0] rfl ?_
      exact hK21 v1 v2 (v3 + (1 : Int32)) m h
  · refine J_iinc hX (v3 + (1 : Int32)) [(3, .int (v3 + (1 : Int32))), (0, .ref 78), (1, .int v1), (2, .int v2)] dX11_at_95 3 rfl (congrArg (fun z => v3 + z) ic_1) (by decide) rfl ?_
    refine J_goto hX 21 dX11_at_98 (by decide) ?_
    refine J_sub [(0, .ref 78), (1, .int v1), (2, .int v2), (3, .int (v3 + (1 : Int32)))] [1, 2, 3, 0] rfl ?_
    exact hK21 v1 v2 (v3 + (1 : Int32)) m h
def f_X11_at_L21 : Nat → Int32 → Int32 → Int32 →  Mm → Option (Int32 × Mm)
  | 0, _, _, _, _ => none
  | k + 1, v1, v2, v3, m => (if v3 < (gI m 99 (ix (0 : Int32))) then bd2 (f_X11_unitOn v3 v1 m) (fun r5 m4 => (if r5 < 0 then f_X11_at_J67 (fun w1 w2 w3 m => f_X11_at_L21 k w1 w2 w3 m) v1 v2 v3 m4 else gd (inb (((5 : Int32) * v3) + r5) 400) ((if (gI m4 106 (ix (((5 : Int32) * v3) + r5))) = v2 then some ((((8 : Int32) * v3) + r5), m4) else f_X11_at_J67 (fun w1 w2 w3 m => f_X11_at_L21 k w1 w2 w3 m) v1 v2 v3 m4)))) else some ((-1 : Int32), m))
theorem t_X11_at_L21 {X : XX} {G : GG} {ρ : Nat → Nat} {n t u w v : Nat} {x : Option Nat} {d : Nat} (hX : Ok X G ρ cX11_at 5 RX11 d) (hd0 : 1 ≤ d) (hn : 126 ≤ n) {rE : Int32} {mE : Mm} (hF : Fin' X G ρ n (some .int) (some (.int rE)) (RT t u w v x) mE) : ∀ (k : Nat) (v1 : Int32) (v2 : Int32) (v3 : Int32) (m : Mm), f_X11_at_L21 k v1 v2 v3 m = some (rE, mE) → J X G ρ n 5 21 [(0, .ref 78), (1, .int v1), (2, .int v2), (3, .int v3)] [] (RT t u w v x) m := by
  intro k
  induction k with
  | zero => intro _ _ _ _ h; rw [f_X11_at_L21] at h; cases h
  | succ k ih =>
    intro v1 v2 v3 m h
    rw [f_X11_at_L21] at h
    refine J_iload_n hX dX11_at_21 rfl 3 rfl ?_
    refine J_aload_n hX dX11_at_22 rfl 0 rfl ?_
    refine J_getR hX dX11_at_23 fl_RX11_71 (ltn ltc_78 hn) lo_78 rfl (rt_78_32 _ _ _ _ _) ?_
    refine J_iconst hX (0 : Int32) dX11_at_26 ic_0 ?_
    refine J_iaload0 hX dX11_at_27 (ltn ltc_99 hn) lay_99 (by decide) ?_
    refine J_icmp_ge hX 101 dX11_at_28 (by decide) h (fun c h => ?_) (fun c h => ?_)
    · refine J_aload_n hX dX11_at_31 rfl 0 rfl ?_
      refine J_iload_n hX dX11_at_32 rfl 3 rfl ?_
      refine J_iload_n hX dX11_at_33 rfl 1 rfl ?_
      obtain ⟨r5, m4, h0, h⟩ := bd2_some h
      refine J_callVi (As := [.int v3, .int v1]) (st := []) hX dX11_at_34 cw_RX11_309 (by omega) (c_X11_unitOn hn  h0) (ltn ltc_78 hn) lo_78 (by decide) rfl rfl rfl (Nat.le_of_ble_eq_true rfl) ?_
      clear h0
      refine J_istore hX [(4, .int r5), (0, .ref 78), (1, .int v1), (2, .int v2), (3, .int v3)] dX11_at_37 (by decide) rfl ?_
      refine J_iload hX dX11_at_39 0 rfl ?_
      refine J_if_lt hX 67 dX11_at_41 (by decide) h (fun c h => ?_) (fun c h => ?_)
      · refine J_sub [(0, .ref 78), (1, .int v1), (2, .int v2), (3, .int v3)] [1, 2, 3, 4] rfl ?_
        exact t_X11_at_J67 hX hd0 hn hF v1 v2 v3 (fun w1 w2 w3 m h => ih w1 w2 w3 m h) m4 h
      · refine J_aload_n hX dX11_at_44 rfl 1 rfl ?_
        refine J_getR hX dX11_at_45 fl_RX11_92 (ltn ltc_78 hn) lo_78 rfl (rt_78_39 _ _ _ _ _) ?_
        refine J_iconst hX (5 : Int32) dX11_at_48 ic_5 ?_
        refine J_iload_n hX dX11_at_49 rfl 4 rfl ?_
        refine J_imul hX dX11_at_50 ?_
        refine J_iload hX dX11_at_51 0 rfl ?_
        refine J_iadd hX dX11_at_53 ?_
        refine J_iaload hX dX11_at_54 (ltn ltc_106 hn) lay_106 h (fun h => ?_)
        refine J_iload_n hX dX11_at_55 rfl 3 rfl ?_
        refine J_icmp_ne hX 67 dX11_at_56 (by decide) h (fun c h => ?_) (fun c h => ?_)
        · refine J_bipush hX (8 : Int32) dX11_at_59 (by decide) ?_
          refine J_iload_n hX dX11_at_61 rfl 4 rfl ?_
          refine J_imul hX dX11_at_62 ?_
          refine J_iload hX dX11_at_63 0 rfl ?_
          refine J_iadd hX dX11_at_65 ?_
          exact J_ireturn hX dX11_at_66 h hF rfl
        · refine J_sub [(0, .ref 78), (1, .int v1), (2, .int v2), (3, .int v3)] [1, 2, 3, 4] rfl ?_
          exact t_X11_at_J67 hX hd0 hn hF v1 v2 v3 (fun w1 w2 w3 m h => ih w1 w2 w3 m h) m4 h
    · refine J_iconst hX (-1 : Int32) dX11_at_101 ic_m1 ?_
      exact J_ireturn hX dX11_at_102 h hF rfl
def f_X11_at (x1 : Int32) (x2 : Int32) (m : Mm) : Option (Int32 × Mm) := stI m 78 0 (0 : Int32) (fun m1 => bd2 (f_X11_isDisk x1 m1) (fun r3 m2 => (if r3 = 0 then some ((-1 : Int32), m2) else (if x2 < 0 then some ((-1 : Int32), m2) else f_X11_at_L21 FU x1 x2 (0 : Int32)  m2))))
theorem t_X11_at {X : XX} {G : GG} {ρ : Nat → Nat} {n t u w v : Nat} {x : Option Nat} {d : Nat} (hX : Ok X G ρ cX11_at 5 RX11 d) (hd0 : 1 ≤ d) (hn : 126 ≤ n) {rE : Int32} {mE : Mm} (hF : Fin' X G ρ n (some .int) (some (.int rE)) (RT t u w v x) mE) {x1 : Int32} {x2 : Int32} {m : Mm} (h : f_X11_at x1 x2 m = some (rE, mE)) : J X G ρ n 5 0 [(0, .ref 78), (1, .int x1), (2, .int x2)] [] (RT t u w v x) m := by
  unfold f_X11_at at h
  refine J_aload_n hX dX11_at_0 rfl 0 rfl ?_
  refine J_iconst hX (0 : Int32) dX11_at_1 ic_0 ?_
  refine J_putI hX dX11_at_2 pl_RX11_152 (ltn ltc_78 hn) lo_78 rfl rfl rfl h (fun m1 h => ?_)
  refine J_aload_n hX dX11_at_5 rfl 0 rfl ?_
  refine J_iload_n hX dX11_at_6 rfl 1 rfl ?_
  obtain ⟨r3, m2, h0, h⟩ := bd2_some h
  refine J_callVi (As := [.int x1]) (st := []) hX dX11_at_7 cw_RX11_385 (by omega) (c_X11_isDisk hn  h0) (ltn ltc_78 hn) lo_78 (by decide) rfl rfl rfl (Nat.le_of_ble_eq_true rfl) ?_
  clear h0
  refine J_if_eq hX 17 dX11_at_10 (by decide) h (fun c h => ?_) (fun c h => ?_)
  · refine J_iconst hX (-1 : Int32) dX11_at_17 ic_m1 ?_
    exact J_ireturn hX dX11_at_18 h hF rfl
  · refine J_iload_n hX dX11_at_13 rfl 2 rfl ?_
    refine J_if_ge hX 19 dX11_at_14 (by decide) h (fun c h => ?_) (fun c h => ?_)
    · refine J_iconst hX (-1 : Int32) dX11_at_17 ic_m1 ?_
      exact J_ireturn hX dX11_at_18 h hF rfl
    · refine J_iconst hX (0 : Int32) dX11_at_19 ic_0 ?_
      refine J_istore_n hX [(3, .int (0 : Int32)), (0, .ref 78), (1, .int x1), (2, .int x2)] dX11_at_20 rfl (by decide) rfl ?_
      refine J_sub [(0, .ref 78), (1, .int x1), (2, .int x2), (3, .int (0 : Int32))] [1, 2, 3, 0] rfl ?_
      exact t_X11_at_L21 hX hd0 hn hF FU x1 x2 (0 : Int32)  m2 h
theorem c_X11_at {G : GG} {l : Launch} {ρ : Nat → Nat} {n t u w v : Nat} {x : Option Nat} (hn : 126 ≤ n) {x1 : Int32} {x2 : Int32} {m : Mm} {rE : Int32} {mE : Mm} (h : f_X11_at x1 x2 m = some (rE, mE)) : CT G l yX11_at cX11_at 5 (some .int) 1 0 0 ρ n (RT t u w v x) [.ref 78, .int x1, .int x2] m (some (.int rE)) (RT t u w v x) mE := ct_of_J (by decide) rfl (Nat.le_of_ble_eq_true rfl) (fun X hX e1 e2 e3 e4 hQ hr hl => t_X11_at hX (Nat.le_refl _) hn ⟨by rw [hQ, e3, e4], hr, hl⟩ h)
def f_X10_disk (t : Nat) (u : Nat) (w : Nat) (v : Nat) (x1 : Int32) (x2 : Int32) (m : Mm) : Option (Int32 × Mm) := bd2 (f_X10_isDisk t u w v x1 m) (fun r2 m1 => (if r2 = 0 then some ((-1 : Int32), m1) else (if x2 = (0 : Int32) then bd2 (f_X6_isUp 54 x1 m1) (fun r4 m3 => (if r4 = 0 then some ((0 : Int32), m3) else some ((1 : Int32), m3))) else (if x2 = (1 : Int32) then gd (inb x1 13) (some ((gI m1 37 (ix x1)), m1)) else (if x2 = (2 : Int32) then gd (inb x1 13) (some ((gI m1 38 (ix x1)), m1)) else (if x2 = (3 : Int32) then gd (inb x1 13) (some ((gI m1 39 (ix x1)), m1)) else (if x2 = (4 : Int32) then gd (inb x1 13) (some ((gI m1 57 (ix x1)), m1)) else (if x2 = (5 : Int32) then bd2 (f_X6_unitsNow 54 x1 m1) (fun r6 m5 => some (r6, m5)) else some ((-1 : Int32), m1)))))))))
theorem t_X10_disk {X : XX} {G : GG} {ρ : Nat → Nat} {n : Nat} {x : Option Nat} {d : Nat} {t : Nat} {u : Nat} {w : Nat} {v : Nat} (hX : Ok X G ρ cX10_disk 3 RX10 d) (hd0 : 3 ≤ d) (hn : 126 ≤ n) (ht : isTo t) (hu : isTo u) (hw : isWk w) (hv : isWk v) {rE : Int32} {mE : Mm} (hF : Fin' X G ρ n (some .int) (some (.int rE)) (RT t u w v x) mE) {x1 : Int32} {x2 : Int32} {m : Mm} (h : f_X10_disk t u w v x1 x2 m = some (rE, mE)) : J X G ρ n 3 0 [(0, .ref 0), (1, .int x1), (2, .int x2)] [] (RT t u w v x) m := by
  unfold f_X10_disk at h
  refine J_aload_n hX dX10_disk_0 rfl 0 rfl ?_
  refine J_iload_n hX dX10_disk_1 rfl 1 rfl ?_
  obtain ⟨r2, m1, h0, h⟩ := bd2_some h
  refine J_callVi (As := [.int x1]) (st := []) hX dX10_disk_2 cw_RX10_168 (by omega) (c_X10_isDisk hn ht hu hw hv h0) (ltn ltc_0 hn) lo_0 (by decide) rfl rfl rfl (Nat.le_of_ble_eq_true rfl) ?_
  clear h0
  refine J_if_ne hX 10 dX10_disk_5 (by decide) h (fun c h => ?_) (fun c h => ?_)
  · refine J_iconst hX (-1 : Int32) dX10_disk_8 ic_m1 ?_
    exact J_ireturn hX dX10_disk_9 h hF rfl
  · refine J_iload_n hX dX10_disk_10 rfl 2 rfl ?_
    refine J_split h (fun c0 h => ?_) (fun c0 h => ?_)
    · refine J_tabIn hX 48 (0 : Int32) dX10_disk_11 c0 (by decide) (by decide) (by decide) (by decide) ?_
      refine J_aload_n hX dX10_disk_48 rfl 0 rfl ?_
      refine J_getR hX dX10_disk_49 fl_RX10_60 (ltn ltc_0 hn) lo_0 rfl (rt_0_8 _ _ _ _ _) ?_
      refine J_iload_n hX dX10_disk_52 rfl 1 rfl ?_
      obtain ⟨r4, m3, h0, h⟩ := bd2_some h
      refine J_callVi (As := [.int x1]) (st := []) hX dX10_disk_53 cw_RX10_174 (by omega) (c_X6_isUp hn p_isSt_54 h0) (ltn ltc_54 hn) lo_54 (by decide) rfl rfl rfl (Nat.le_of_ble_eq_true rfl) ?_
      clear h0
      refine J_if_eq hX 63 dX10_disk_56 (by decide) h (fun c h => ?_) (fun c h => ?_)
      · refine J_iconst hX (0 : Int32) dX10_disk_63 ic_0 ?_
        exact J_ireturn hX dX10_disk_64 h hF rfl
      · refine J_iconst hX (1 : Int32) dX10_disk_59 ic_1 ?_
        refine J_goto hX 64 dX10_disk_60 (by decide) ?_
        exact J_ireturn hX dX10_disk_64 h hF rfl
    · refine J_split h (fun c1 h => ?_) (fun c1 h => ?_)
      · refine J_tabIn hX 65 (1 : Int32) dX10_disk_11 c1 (by decide) (by decide) (by decide) (by decide) ?_
        refine J_aload_n hX dX10_disk_65 rfl 0 rfl ?_
        refine J_getR hX dX10_disk_66 fl_RX10_48 (ltn ltc_0 hn) lo_0 rfl (rt_0_6 _ _ _ _ _) ?_
        refine J_getR hX dX10_disk_69 fl_RX10_177 (ltn ltc_26 hn) lo_26 rfl (rt_26_13 _ _ _ _ _) ?_
        refine J_iload_n hX dX10_disk_72 rfl 1 rfl ?_
        refine J_iaload hX dX10_disk_73 (ltn ltc_37 hn) lay_37 h (fun h => ?_)
        exact J_ireturn hX dX10_disk_74 h hF rfl
      · refine J_split h (fun c2 h => ?_) (fun c2 h => ?_)
        · refine J_tabIn hX 75 (2 : Int32) dX10_disk_11 c2 (by decide) (by decide) (by decide) (by decide) ?_
          refine J_aload_n hX dX10_disk_75 rfl 0 rfl ?_
          refine J_getR hX dX10_disk_76 fl_RX10_48 (ltn ltc_0 hn) lo_0 rfl (rt_0_6 _ _ _ _ _) ?_
          refine J_getR hX dX10_disk_79 fl_RX10_180 (ltn ltc_26 hn) lo_26 rfl (rt_26_14 _ _ _ _ _) ?_
          refine J_iload_n hX dX10_disk_82 rfl 1 rfl ?_
          refine J_iaload hX dX10_disk_83 (ltn ltc_38 hn) lay_38 h (fun h => ?_)
          exact J_ireturn hX dX10_disk_84 h hF rfl
        · refine J_split h (fun c3 h => ?_) (fun c3 h => ?_)
          · refine J_tabIn hX 85 (3 : Int32) dX10_disk_11 c3 (by decide) (by decide) (by decide) (by decide) ?_
            refine J_aload_n hX dX10_disk_85 rfl 0 rfl ?_
            refine J_getR hX dX10_disk_86 fl_RX10_48 (ltn ltc_0 hn) lo_0 rfl (rt_0_6 _ _ _ _ _) ?_
            refine J_getR hX dX10_disk_89 fl_RX10_183 (ltn ltc_26 hn) lo_26 rfl (rt_26_15 _ _ _ _ _) ?_
            refine J_iload_n hX dX10_disk_92 rfl 1 rfl ?_
            refine J_iaload hX dX10_disk_93 (ltn ltc_39 hn) lay_39 h (fun h => ?_)
            exact J_ireturn hX dX10_disk_94 h hF rfl
          · refine J_split h (fun c4 h => ?_) (fun c4 h => ?_)
            · refine J_tabIn hX 95 (4 : Int32) dX10_disk_11 c4 (by decide) (by decide) (by decide) (by decide) ?_
              refine J_aload_n hX dX10_disk_95 rfl 0 rfl ?_
              refine J_getR hX dX10_disk_96 fl_RX10_60 (ltn ltc_0 hn) lo_0 rfl (rt_0_8 _ _ _ _ _) ?_
              refine J_getR hX dX10_disk_99 fl_RX10_186 (ltn ltc_54 hn) lo_54 rfl (rt_54_4 _ _ _ _ _) ?_
              refine J_iload_n hX dX10_disk_102 rfl 1 rfl ?_
              refine J_iaload hX dX10_disk_103 (ltn ltc_57 hn) lay_57 h (fun h => ?_)
              exact J_ireturn hX dX10_disk_104 h hF rfl
            · refine J_split h (fun c5 h => ?_) (fun c5 h => ?_)
              · refine J_tabIn hX 105 (5 : Int32) dX10_disk_11 c5 (by decide) (by decide) (by decide) (by decide) ?_
                refine J_aload_n hX dX10_disk_105 rfl 0 rfl ?_
                refine J_getR hX dX10_disk_106 fl_RX10_60 (ltn ltc_0 hn) lo_0 rfl (rt_0_8 _ _ _ _ _) ?_
                refine J_iload_n hX dX10_disk_109 rfl 1 rfl ?_
                obtain ⟨r6, m5, h0, h⟩ := bd2_some h
                refine J_callVi (As := [.int x1]) (st := []) hX dX10_disk_110 cw_RX10_189 (by omega) (c_X6_unitsNow hn p_isSt_54 h0) (ltn ltc_54 hn) lo_54 (by decide) rfl rfl rfl (Nat.le_of_ble_eq_true rfl) ?_
                clear h0
                exact J_ireturn hX dX10_disk_113 h hF rfl
              · refine J_tabOut hX 114 [(0 : Int32), (1 : Int32), (2 : Int32), (3 : Int32), (4 : Int32), (5 : Int32)] dX10_disk_11 (by decide) (by simp only [List.mem_cons, List.not_mem_nil, or_false, not_or]; exact ⟨c0, c1, c2, c3, c4, c5⟩) (by decide) ?_
                refine J_iconst hX (-1 : Int32) dX10_disk_114 ic_m1 ?_
                exact J_ireturn hX dX10_disk_115 h hF rfl
theorem c_X10_disk {G : GG} {l : Launch} {ρ : Nat → Nat} {n : Nat} {x : Option Nat} (hn : 126 ≤ n) {t : Nat} {u : Nat} {w : Nat} {v : Nat} (ht : isTo t) (hu : isTo u) (hw : isWk w) (hv : isWk v) {x1 : Int32} {x2 : Int32} {m : Mm} {rE : Int32} {mE : Mm} (h : f_X10_disk t u w v x1 x2 m = some (rE, mE)) : CT G l yX10_disk cX10_disk 3 (some .int) 3 0 0 ρ n (RT t u w v x) [.ref 0, .int x1, .int x2] m (some (.int rE)) (RT t u w v x) mE := ct_of_J (by decide) rfl (Nat.le_of_ble_eq_true rfl) (fun X hX e1 e2 e3 e4 hQ hr hl => t_X10_disk hX (Nat.le_refl _) hn ht hu hw hv ⟨by rw [hQ, e3, e4], hr, hl⟩ h)
def f_X11_disk (x1 : Int32) (x2 : Int32) (m : Mm) : Option (Int32 × Mm) := stI m 78 0 (0 : Int32) (fun m1 => bd2 (f_X11_isDisk x1 m1) (fun r3 m2 => (if r3 = 0 then some ((-1 : Int32), m2) else bd2 (f_X11_within x2 (0 : Int32) (5 : Int32) m2) (fun r5 m4 => (if r5 = 0 then some ((-1 : Int32), m4) else (if x2 = 0 then some ((((gI m4 117 (ix (0 : Int32))) >>> (x1 &&& 31)) &&& (1 : Int32)), m4) else (if x2 < (4 : Int32) then bd2 (f_X11_ofDisk x1 x2 m4) (fun r9 m8 => some (r9, m8)) else (if x2 = (4 : Int32) then gd (inb ((1 : Int32) + x1) 374) (some ((gI m4 117 (ix ((1 : Int32) + x1))), m4)) else bd2 (f_X11_thereOn x1 m4) (fun r7 m6 => some (r7, m6))))))))))
theorem t_X11_disk {X : XX} {G : GG} {ρ : Nat → Nat} {n t u w v : Nat} {x : Option Nat} {d : Nat} (hX : Ok X G ρ cX11_disk 3 RX11 d) (hd0 : 3 ≤ d) (hn : 126 ≤ n) {rE : Int32} {mE : Mm} (hF : Fin' X G ρ n (some .int) (some (.int rE)) (RT t u w v x) mE) {x1 : Int32} {x2 : Int32} {m : Mm} (h : f_X11_disk x1 x2 m = some (rE, mE)) : J X G ρ n 3 0 [(0, .ref 78), (1, .int x1), (2, .int x2)] [] (RT t u w v x) m := by
  unfold f_X11_disk at h
  refine J_aload_n hX dX11_disk_0 rfl 0 rfl ?_
  refine J_iconst hX (0 : Int32) dX11_disk_1 ic_0 ?_
  refine J_putI hX dX11_disk_2 pl_RX11_152 (ltn ltc_78 hn) lo_78 rfl rfl rfl h (fun m1 h => ?_)
  refine J_aload_n hX dX11_disk_5 rfl 0 rfl ?_
  refine J_iload_n hX dX11_disk_6 rfl 1 rfl ?_
  obtain ⟨r3, m2, h0, h⟩ := bd2_some h
  refine J_callVi (As := [.int x1]) (st := []) hX dX11_disk_7 cw_RX11_385 (by omega) (c_X11_isDisk hn  h0) (ltn ltc_78 hn) lo_78 (by decide) rfl rfl rfl (Nat.le_of_ble_eq_true rfl) ?_
  clear h0
  refine J_if_eq hX 22 dX11_disk_10 (by decide) h (fun c h => ?_) (fun c h => ?_)
  · refine J_iconst hX (-1 : Int32) dX11_disk_22 ic_m1 ?_
    exact J_ireturn hX dX11_disk_23 h hF rfl
  · refine J_iload_n hX dX11_disk_13 rfl 2 rfl ?_
    refine J_iconst hX (0 : Int32) dX11_disk_14 ic_0 ?_
    refine J_iconst hX (5 : Int32) dX11_disk_15 ic_5 ?_
    obtain ⟨r5, m4, h0, h⟩ := bd2_some h
    refine J_callSi (As := [.int x2, .int (0 : Int32), .int (5 : Int32)]) (st := []) hX dX11_disk_16 cw_RX11_239 (by omega) (c_X11_within hn  h0) rfl rfl (Nat.le_of_ble_eq_true rfl) ?_
    clear h0
    refine J_if_ne hX 24 dX11_disk_19 (by decide) h (fun c h => ?_) (fun c h => ?_)
    · refine J_iconst hX (-1 : Int32) dX11_disk_22 ic_m1 ?_
      exact J_ireturn hX dX11_disk_23 h hF rfl
    · refine J_iload_n hX dX11_disk_24 rfl 2 rfl ?_
      refine J_if_ne hX 39 dX11_disk_25 (by decide) h (fun c h => ?_) (fun c h => ?_)
      · refine J_aload_n hX dX11_disk_28 rfl 0 rfl ?_
        refine J_getR hX dX11_disk_29 fl_RX11_125 (ltn ltc_78 hn) lo_78 rfl (rt_78_50 _ _ _ _ _) ?_
        refine J_iconst hX (0 : Int32) dX11_disk_32 ic_0 ?_
        refine J_iaload0 hX dX11_disk_33 (ltn ltc_117 hn) lay_117 (by decide) ?_
        refine J_iload_n hX dX11_disk_34 rfl 1 rfl ?_
        refine J_ishr hX dX11_disk_35 ?_
        refine J_iconst hX (1 : Int32) dX11_disk_36 ic_1 ?_
        refine J_iand hX dX11_disk_37 ?_
        exact J_ireturn hX dX11_disk_38 h hF rfl
      · refine J_iload_n hX dX11_disk_39 rfl 2 rfl ?_
        refine J_iconst hX (4 : Int32) dX11_disk_40 ic_4 ?_
        refine J_icmp_ge hX 53 dX11_disk_41 (by decide) h (fun c h => ?_) (fun c h => ?_)
        · refine J_aload_n hX dX11_disk_44 rfl 0 rfl ?_
          refine J_iload_n hX dX11_disk_45 rfl 1 rfl ?_
          refine J_iload_n hX dX11_disk_46 rfl 2 rfl ?_
          obtain ⟨r9, m8, h0, h⟩ := bd2_some h
          refine J_callVi (As := [.int x1, .int x2]) (st := []) hX dX11_disk_47 cw_RX11_391 (by omega) (c_X11_ofDisk hn  h0) (ltn ltc_78 hn) lo_78 (by decide) rfl rfl rfl (Nat.le_of_ble_eq_true rfl) ?_
          clear h0
          refine J_goto hX 74 dX11_disk_50 (by decide) ?_
          exact J_ireturn hX dX11_disk_74 h hF rfl
        · refine J_iload_n hX dX11_disk_53 rfl 2 rfl ?_
          refine J_iconst hX (4 : Int32) dX11_disk_54 ic_4 ?_
          refine J_icmp_ne hX 69 dX11_disk_55 (by decide) h (fun c h => ?_) (fun c h => ?_)
          · refine J_aload_n hX dX11_disk_58 rfl 0 rfl ?_
            refine J_getR hX dX11_disk_59 fl_RX11_125 (ltn ltc_78 hn) lo_78 rfl (rt_78_50 _ _ _ _ _) ?_
            refine J_iconst hX (1 : Int32) dX11_disk_62 ic_1 ?_
            refine J_iload_n hX dX11_disk_63 rfl 1 rfl ?_
            refine J_iadd hX dX11_disk_64 ?_
            refine J_iaload hX dX11_disk_65 (ltn ltc_117 hn) lay_117 h (fun h => ?_)
            refine J_goto hX 74 dX11_disk_66 (by decide) ?_
            exact J_ireturn hX dX11_disk_74 h hF rfl
          · refine J_aload_n hX dX11_disk_69 rfl 0 rfl ?_
            refine J_iload_n hX dX11_disk_70 rfl 1 rfl ?_
            obtain ⟨r7, m6, h0, h⟩ := bd2_some h
            refine J_callVi (As := [.int x1]) (st := []) hX dX11_disk_71 cw_RX11_394 (by omega) (c_X11_thereOn hn  h0) (ltn ltc_78 hn) lo_78 (by decide) rfl rfl rfl (Nat.le_of_ble_eq_true rfl) ?_
            clear h0
            exact J_ireturn hX dX11_disk_74 h hF rfl
theorem c_X11_disk {G : GG} {l : Launch} {ρ : Nat → Nat} {n t u w v : Nat} {x : Option Nat} (hn : 126 ≤ n) {x1 : Int32} {x2 : Int32} {m : Mm} {rE : Int32} {mE : Mm} (h : f_X11_disk x1 x2 m = some (rE, mE)) : CT G l yX11_disk cX11_disk 3 (some .int) 3 0 0 ρ n (RT t u w v x) [.ref 78, .int x1, .int x2] m (some (.int rE)) (RT t u w v x) mE := ct_of_J (by decide) rfl (Nat.le_of_ble_eq_true rfl) (fun X hX e1 e2 e3 e4 hQ hr hl => t_X11_disk hX (Nat.le_refl _) hn ⟨by rw [hQ, e3, e4], hr, hl⟩ h)
def f_X10_read (t : Nat) (u : Nat) (w : Nat) (v : Nat) (x1 : Int32) (m : Mm) : Option (Int32 × Mm) := bd2 (f_X10_isDatum t u w v x1 m) (fun r2 m1 => (if r2 = 0 then some ((-1 : Int32), m1) else bd2 (f_X6_readDatum 54 x1 m1) (fun r4 m3 => (if r4 = 0 then some ((-1 : Int32), m3) else gd (inb x1 160) (bd2 (f_X6_byteOf 54 (gI m3 36 (ix x1)) m3) (fun r6 m5 => some (r6, m5)))))))
theorem t_X10_read {X : XX} {G : GG} {ρ : Nat → Nat} {n : Nat} {x : Option Nat} {d : Nat} {t : Nat} {u : Nat} {w : Nat} {v : Nat} (hX : Ok X G ρ cX10_read 2 RX10 d) (hd0 : 4 ≤ d) (hn : 126 ≤ n) (ht : isTo t) (hu : isTo u) (hw : isWk w) (hv : isWk v) {rE : Int32} {mE : Mm} (hF : Fin' X G ρ n (some .int) (some (.int rE)) (RT t u w v x) mE) {x1 : Int32} {m : Mm} (h : f_X10_read t u w v x1 m = some (rE, mE)) : J X G ρ n 2 0 [(0, .ref 0), (1, .int x1)] [] (RT t u w v x) m := by
  unfold f_X10_read at h
  refine J_aload_n hX dX10_read_0 rfl 0 rfl ?_
  refine J_iload_n hX dX10_read_1 rfl 1 rfl ?_
  obtain ⟨r2, m1, h0, h⟩ := bd2_some h
  refine J_callVi (As := [.int x1]) (st := []) hX dX10_read_2 cw_RX10_156 (by omega) (c_X10_isDatum hn ht hu hw hv h0) (ltn ltc_0 hn) lo_0 (by decide) rfl rfl rfl (Nat.le_of_ble_eq_true rfl) ?_
  clear h0
  refine J_if_eq hX 38 dX10_read_5 (by decide) h (fun c h => ?_) (fun c h => ?_)
  · refine J_iconst hX (-1 : Int32) dX10_read_38 ic_m1 ?_
    exact J_ireturn hX dX10_read_39 h hF rfl
  · refine J_aload_n hX dX10_read_8 rfl 0 rfl ?_
    refine J_getR hX dX10_read_9 fl_RX10_60 (ltn ltc_0 hn) lo_0 rfl (rt_0_8 _ _ _ _ _) ?_
    refine J_iload_n hX dX10_read_12 rfl 1 rfl ?_
    obtain ⟨r4, m3, h0, h⟩ := bd2_some h
    refine J_callVi (As := [.int x1]) (st := []) hX dX10_read_13 cw_RX10_192 (by omega) (c_X6_readDatum hn p_isSt_54 h0) (ltn ltc_54 hn) lo_54 (by decide) rfl rfl rfl (Nat.le_of_ble_eq_true rfl) ?_
    clear h0
    refine J_if_eq hX 38 dX10_read_16 (by decide) h (fun c h => ?_) (fun c h => ?_)
    · refine J_iconst hX (-1 : Int32) dX10_read_38 ic_m1 ?_
      exact J_ireturn hX dX10_read_39 h hF rfl
    · refine J_aload_n hX dX10_read_19 rfl 0 rfl ?_
      refine J_getR hX dX10_read_20 fl_RX10_60 (ltn ltc_0 hn) lo_0 rfl (rt_0_8 _ _ _ _ _) ?_
      refine J_aload_n hX dX10_read_23 rfl 0 rfl ?_
      refine J_getR hX dX10_read_24 fl_RX10_48 (ltn ltc_0 hn) lo_0 rfl (rt_0_6 _ _ _ _ _) ?_
      refine J_getR hX dX10_read_27 fl_RX10_159 (ltn ltc_26 hn) lo_26 rfl (rt_26_12 _ _ _ _ _) ?_
      refine J_iload_n hX dX10_read_30 rfl 1 rfl ?_
      refine J_iaload hX dX10_read_31 (ltn ltc_36 hn) lay_36 h (fun h => ?_)
      obtain ⟨r6, m5, h0, h⟩ := bd2_some h
      refine J_callVi (As := [.int (gI m3 36 (ix x1))]) (st := []) hX dX10_read_32 cw_RX10_150 (by omega) (c_X6_byteOf hn p_isSt_54 h0) (ltn ltc_54 hn) lo_54 (by decide) rfl rfl rfl (Nat.le_of_ble_eq_true rfl) ?_
      clear h0
      refine J_goto hX 39 dX10_read_35 (by decide) ?_
      exact J_ireturn hX dX10_read_39 h hF rfl
theorem c_X10_read {G : GG} {l : Launch} {ρ : Nat → Nat} {n : Nat} {x : Option Nat} (hn : 126 ≤ n) {t : Nat} {u : Nat} {w : Nat} {v : Nat} (ht : isTo t) (hu : isTo u) (hw : isWk w) (hv : isWk v) {x1 : Int32} {m : Mm} {rE : Int32} {mE : Mm} (h : f_X10_read t u w v x1 m = some (rE, mE)) : CT G l yX10_read cX10_read 2 (some .int) 4 0 0 ρ n (RT t u w v x) [.ref 0, .int x1] m (some (.int rE)) (RT t u w v x) mE := ct_of_J (by decide) rfl (Nat.le_of_ble_eq_true rfl) (fun X hX e1 e2 e3 e4 hQ hr hl => t_X10_read hX (Nat.le_refl _) hn ht hu hw hv ⟨by rw [hQ, e3, e4], hr, hl⟩ h)
def f_X11_read (x1 : Int32) (m : Mm) : Option (Int32 × Mm) := stI m 78 0 (0 : Int32) (fun m1 => bd2 (f_X11_isDatum x1 m1) (fun r3 m2 => (if r3 = 0 then some ((-1 : Int32), m2) else bd2 (f_X11_canRead x1 m2) (fun r5 m4 => (if r5 = 0 then some ((-1 : Int32), m4) else bd2 (f_X11_readsDatum x1 m4) (fun r7 m6 => some (r7, m6)))))))
theorem t_X11_read {X : XX} {G : GG} {ρ : Nat → Nat} {n t u w v : Nat} {x : Option Nat} {d : Nat} (hX : Ok X G ρ cX11_read 2 RX11 d) (hd0 : 3 ≤ d) (hn : 126 ≤ n) {rE : Int32} {mE : Mm} (hF : Fin' X G ρ n (some .int) (some (.int rE)) (RT t u w v x) mE) {x1 : Int32} {m : Mm} (h : f_X11_read x1 m = some (rE, mE)) : J X G ρ n 2 0 [(0, .ref 78), (1, .int x1)] [] (RT t u w v x) m := by
  unfold f_X11_read at h
  refine J_aload_n hX dX11_read_0 rfl 0 rfl ?_
  refine J_iconst hX (0 : Int32) dX11_read_1 ic_0 ?_
  refine J_putI hX dX11_read_2 pl_RX11_152 (ltn ltc_78 hn) lo_78 rfl rfl rfl h (fun m1 h => ?_)
  refine J_aload_n hX dX11_read_5 rfl 0 rfl ?_
  refine J_iload_n hX dX11_read_6 rfl 1 rfl ?_
  obtain ⟨r3, m2, h0, h⟩ := bd2_some h
  refine J_callVi (As := [.int x1]) (st := []) hX dX11_read_7 cw_RX11_382 (by omega) (c_X11_isDatum hn  h0) (ltn ltc_78 hn) lo_78 (by decide) rfl rfl rfl (Nat.le_of_ble_eq_true rfl) ?_
  clear h0
  refine J_if_eq hX 29 dX11_read_10 (by decide) h (fun c h => ?_) (fun c h => ?_)
  · refine J_iconst hX (-1 : Int32) dX11_read_29 ic_m1 ?_
    exact J_ireturn hX dX11_read_30 h hF rfl
  · refine J_aload_n hX dX11_read_13 rfl 0 rfl ?_
    refine J_iload_n hX dX11_read_14 rfl 1 rfl ?_
    obtain ⟨r5, m4, h0, h⟩ := bd2_some h
    refine J_callVi (As := [.int x1]) (st := []) hX dX11_read_15 cw_RX11_397 (by omega) (c_X11_canRead hn  h0) (ltn ltc_78 hn) lo_78 (by decide) rfl rfl rfl (Nat.le_of_ble_eq_true rfl) ?_
    clear h0
    refine J_if_eq hX 29 dX11_read_18 (by decide) h (fun c h => ?_) (fun c h => ?_)
    · refine J_iconst hX (-1 : Int32) dX11_read_29 ic_m1 ?_
      exact J_ireturn hX dX11_read_30 h hF rfl
    · refine J_aload_n hX dX11_read_21 rfl 0 rfl ?_
      refine J_iload_n hX dX11_read_22 rfl 1 rfl ?_
      obtain ⟨r7, m6, h0, h⟩ := bd2_some h
      refine J_callVi (As := [.int x1]) (st := []) hX dX11_read_23 cw_RX11_400 (by omega) (c_X11_readsDatum hn  h0) (ltn ltc_78 hn) lo_78 (by decide) rfl rfl rfl (Nat.le_of_ble_eq_true rfl) ?_
      clear h0
      refine J_goto hX 30 dX11_read_26 (by decide) ?_
      exact J_ireturn hX dX11_read_30 h hF rfl
theorem c_X11_read {G : GG} {l : Launch} {ρ : Nat → Nat} {n t u w v : Nat} {x : Option Nat} (hn : 126 ≤ n) {x1 : Int32} {m : Mm} {rE : Int32} {mE : Mm} (h : f_X11_read x1 m = some (rE, mE)) : CT G l yX11_read cX11_read 2 (some .int) 3 0 0 ρ n (RT t u w v x) [.ref 78, .int x1] m (some (.int rE)) (RT t u w v x) mE := ct_of_J (by decide) rfl (Nat.le_of_ble_eq_true rfl) (fun X hX e1 e2 e3 e4 hQ hr hl => t_X11_read hX (Nat.le_refl _) hn ⟨by rw [hQ, e3, e4], hr, hl⟩ h)
def f_X10_write (t : Nat) (u : Nat) (w : Nat) (v : Nat) (x1 : Int32) (x2 : Int32) (m : Mm) : Option (Int32 × Mm) := bd2 (f_X10_isDatum t u w v x1 m) (fun r2 m1 => (if r2 = 0 then some ((-1 : Int32), m1) else (if x2 < 0 then some ((-1 : Int32), m1) else (if (255 : Int32) < x2 then some ((-1 : Int32), m1) else bd2 (f_X6_writeDatum 54 x1 x2 m1) (fun r4 m3 => some (r4, m3))))))
theorem t_X10_write {X : XX} {G : GG} {ρ : Nat → Nat} {n : Nat} {x : Option Nat} {d : Nat} {t : Nat} {u : Nat} {w : Nat} {v : Nat} (hX : Ok X G ρ cX10_write 3 RX10 d) (hd0 : 4 ≤ d) (hn : 126 ≤ n) (ht : isTo t) (hu : isTo u) (hw : isWk w) (hv : isWk v) {rE : Int32} {mE : Mm} (hF : Fin' X G ρ n (some .int) (some (.int rE)) (RT t u w v x) mE) {x1 : Int32} {x2 : Int32} {m : Mm} (h : f_X10_write t u w v x1 x2 m = some (rE, mE)) : J X G ρ n 3 0 [(0, .ref 0), (1, .int x1), (2, .int x2)] [] (RT t u w v x) m := by
  unfold f_X10_write at h
  refine J_aload_n hX dX10_write_0 rfl 0 rfl ?_
  refine J_iload_n hX dX10_write_1 rfl 1 rfl ?_
  obtain ⟨r2, m1, h0, h⟩ := bd2_some h
  refine J_callVi (As := [.int x1]) (st := []) hX dX10_write_2 cw_RX10_156 (by omega) (c_X10_isDatum hn ht hu hw hv h0) (ltn ltc_0 hn) lo_0 (by decide) rfl rfl rfl (Nat.le_of_ble_eq_true rfl) ?_
  clear h0
  refine J_if_eq hX 31 dX10_write_5 (by decide) h (fun c h => ?_) (fun c h => ?_)
  · refine J_iconst hX (-1 : Int32) dX10_write_31 ic_m1 ?_
    exact J_ireturn hX dX10_write_32 h hF rfl
  · refine J_iload_n hX dX10_write_8 rfl 2 rfl ?_
    refine J_if_lt hX 31 dX10_write_9 (by decide) h (fun c h => ?_) (fun c h => ?_)
    · refine J_iconst hX (-1 : Int32) dX10_write_31 ic_m1 ?_
      exact J_ireturn hX dX10_write_32 h hF rfl
    · refine J_iload_n hX dX10_write_12 rfl 2 rfl ?_
      refine J_sipush hX (255 : Int32) dX10_write_13 (by decide) ?_
      refine J_icmp_gt hX 31 dX10_write_16 (by decide) h (fun c h => ?_) (fun c h => ?_)
      · refine J_iconst hX (-1 : Int32) dX10_write_31 ic_m1 ?_
        exact J_ireturn hX dX10_write_32 h hF rfl
      · refine J_aload_n hX dX10_write_19 rfl 0 rfl ?_
        refine J_getR hX dX10_write_20 fl_RX10_60 (ltn ltc_0 hn) lo_0 rfl (rt_0_8 _ _ _ _ _) ?_
        refine J_iload_n hX dX10_write_23 rfl 1 rfl ?_
        refine J_iload_n hX dX10_write_24 rfl 2 rfl ?_
        obtain ⟨r4, m3, h0, h⟩ := bd2_some h
        refine J_callVi (As := [.int x1, .int x2]) (st := []) hX dX10_write_25 cw_RX10_195 (by omega) (c_X6_writeDatum hn p_isSt_54 h0) (ltn ltc_54 hn) lo_54 (by decide) rfl rfl rfl (Nat.le_of_ble_eq_true rfl) ?_
        clear h0
        refine J_goto hX 32 dX10_write_28 (by decide) ?_
        exact J_ireturn hX dX10_write_32 h hF rfl
theorem c_X10_write {G : GG} {l : Launch} {ρ : Nat → Nat} {n : Nat} {x : Option Nat} (hn : 126 ≤ n) {t : Nat} {u : Nat} {w : Nat} {v : Nat} (ht : isTo t) (hu : isTo u) (hw : isWk w) (hv : isWk v) {x1 : Int32} {x2 : Int32} {m : Mm} {rE : Int32} {mE : Mm} (h : f_X10_write t u w v x1 x2 m = some (rE, mE)) : CT G l yX10_write cX10_write 3 (some .int) 4 0 0 ρ n (RT t u w v x) [.ref 0, .int x1, .int x2] m (some (.int rE)) (RT t u w v x) mE := ct_of_J (by decide) rfl (Nat.le_of_ble_eq_true rfl) (fun X hX e1 e2 e3 e4 hQ hr hl => t_X10_write hX (Nat.le_refl _) hn ht hu hw hv ⟨by rw [hQ, e3, e4], hr, hl⟩ h)
def f_X11_write (x1 : Int32) (x2 : Int32) (m : Mm) : Option (Int32 × Mm) := stI m 78 0 (0 : Int32) (fun m1 => bd2 (f_X11_isDatum x1 m1) (fun r3 m2 => (if r3 = 0 then some ((-1 : Int32), m2) else bd2 (f_X11_within x2 (0 : Int32) (255 : Int32) m2) (fun r5 m4 => (if r5 = 0 then some ((-1 : Int32), m4) else bd2 (f_X11_canWrite x1 m4) (fun r7 m6 => (if r7 = 0 then some ((-1 : Int32), m6) else bd2 (f_X11_writesDatum x1 x2 m6) (fun r9 m8 => some (r9, m8)))))))))
theorem t_X11_write {X : XX} {G : GG} {ρ : Nat → Nat} {n t u w v : Nat} {x : Option Nat} {d : Nat} (hX : Ok X G ρ cX11_write 3 RX11 d) (hd0 : 3 ≤ d) (hn : 126 ≤ n) {rE : Int32} {mE : Mm} (hF : Fin' X G ρ n (some .int) (some (.int rE)) (RT t u w v x) mE) {x1 : Int32} {x2 : Int32} {m : Mm} (h : f_X11_write x1 x2 m = some (rE, mE)) : J X G ρ n 3 0 [(0, .ref 78), (1, .int x1), (2, .int x2)] [] (RT t u w v x) m := by
  unfold f_X11_write at h
  refine J_aload_n hX dX11_write_0 rfl 0 rfl ?_
  refine J_iconst hX (0 : Int32) dX11_write_1 ic_0 ?_
  refine J_putI hX dX11_write_2 pl_RX11_152 (ltn ltc_78 hn) lo_78 rfl rfl rfl h (fun m1 h => ?_)
  refine J_aload_n hX dX11_write_5 rfl 0 rfl ?_
  refine J_iload_n hX dX11_write_6 rfl 1 rfl ?_
  obtain ⟨r3, m2, h0, h⟩ := bd2_some h
  refine J_callVi (As := [.int x1]) (st := []) hX dX11_write_7 cw_RX11_382 (by omega) (c_X11_isDatum hn  h0) (ltn ltc_78 hn) lo_78 (by decide) rfl rfl rfl (Nat.le_of_ble_eq_true rfl) ?_
  clear h0
  refine J_if_eq hX 41 dX11_write_10 (by decide) h (fun c h => ?_) (fun c h => ?_)
  · refine J_iconst hX (-1 : Int32) dX11_write_41 ic_m1 ?_
    exact J_ireturn hX dX11_write_42 h hF rfl
  · refine J_iload_n hX dX11_write_13 rfl 2 rfl ?_
    refine J_iconst hX (0 : Int32) dX11_write_14 ic_0 ?_
    refine J_sipush hX (255 : Int32) dX11_write_15 (by decide) ?_
    obtain ⟨r5, m4, h0, h⟩ := bd2_some h
    refine J_callSi (As := [.int x2, .int (0 : Int32), .int (255 : Int32)]) (st := []) hX dX11_write_18 cw_RX11_239 (by omega) (c_X11_within hn  h0) rfl rfl (Nat.le_of_ble_eq_true rfl) ?_
    clear h0
    refine J_if_eq hX 41 dX11_write_21 (by decide) h (fun c h => ?_) (fun c h => ?_)
    · refine J_iconst hX (-1 : Int32) dX11_write_41 ic_m1 ?_
      exact J_ireturn hX dX11_write_42 h hF rfl
    · refine J_aload_n hX dX11_write_24 rfl 0 rfl ?_
      refine J_iload_n hX dX11_write_25 rfl 1 rfl ?_
      obtain ⟨r7, m6, h0, h⟩ := bd2_some h
      refine J_callVi (As := [.int x1]) (st := []) hX dX11_write_26 cw_RX11_403 (by omega) (c_X11_canWrite hn  h0) (ltn ltc_78 hn) lo_78 (by decide) rfl rfl rfl (Nat.le_of_ble_eq_true rfl) ?_
      clear h0
      refine J_if_eq hX 41 dX11_write_29 (by decide) h (fun c h => ?_) (fun c h => ?_)
      · refine J_iconst hX (-1 : Int32) dX11_write_41 ic_m1 ?_
        exact J_ireturn hX dX11_write_42 h hF rfl
      · refine J_aload_n hX dX11_write_32 rfl 0 rfl ?_
        refine J_iload_n hX dX11_write_33 rfl 1 rfl ?_
        refine J_iload_n hX dX11_write_34 rfl 2 rfl ?_
        obtain ⟨r9, m8, h0, h⟩ := bd2_some h
        refine J_callVi (As := [.int x1, .int x2]) (st := []) hX dX11_write_35 cw_RX11_406 (by omega) (c_X11_writesDatum hn  h0) (ltn ltc_78 hn) lo_78 (by decide) rfl rfl rfl (Nat.le_of_ble_eq_true rfl) ?_
        clear h0
        refine J_goto hX 42 dX11_write_38 (by decide) ?_
        exact J_ireturn hX dX11_write_42 h hF rfl
theorem c_X11_write {G : GG} {l : Launch} {ρ : Nat → Nat} {n t u w v : Nat} {x : Option Nat} (hn : 126 ≤ n) {x1 : Int32} {x2 : Int32} {m : Mm} {rE : Int32} {mE : Mm} (h : f_X11_write x1 x2 m = some (rE, mE)) : CT G l yX11_write cX11_write 3 (some .int) 3 0 0 ρ n (RT t u w v x) [.ref 78, .int x1, .int x2] m (some (.int rE)) (RT t u w v x) mE := ct_of_J (by decide) rfl (Nat.le_of_ble_eq_true rfl) (fun X hX e1 e2 e3 e4 hQ hr hl => t_X11_write hX (Nat.le_refl _) hn ⟨by rw [hQ, e3, e4], hr, hl⟩ h)
def f_X10_lose (t : Nat) (u : Nat) (w : Nat) (v : Nat) (x1 : Int32) (m : Mm) : Option (Int32 × Mm) := bd2 (f_X10_isDisk t u w v x1 m) (fun r2 m1 => (if r2 = 0 then some ((-1 : Int32), m1) else bd2 (f_X6_loseDisk 54 x1 m1) (fun r4 m3 => some (r4, m3))))
theorem t_X10_lose {X : XX} {G : GG} {ρ : Nat → Nat} {n : Nat} {x : Option Nat} {d : Nat} {t : Nat} {u : Nat} {w : Nat} {v : Nat} (hX : Ok X G ρ cX10_lose 2 RX10 d) (hd0 : 2 ≤ d) (hn : 126 ≤ n) (ht : isTo t) (hu : isTo u) (hw : isWk w) (hv : isWk v) {rE : Int32} {mE : Mm} (hF : Fin' X G ρ n (some .int) (some (.int rE)) (RT t u w v x) mE) {x1 : Int32} {m : Mm} (h : f_X10_lose t u w v x1 m = some (rE, mE)) : J X G ρ n 2 0 [(0, .ref 0), (1, .int x1)] [] (RT t u w v x) m := by
  unfold f_X10_lose at h
  refine J_aload_n hX dX10_lose_0 rfl 0 rfl ?_
  refine J_iload_n hX dX10_lose_1 rfl 1 rfl ?_
  obtain ⟨r2, m1, h0, h⟩ := bd2_some h
  refine J_callVi (As := [.int x1]) (st := []) hX dX10_lose_2 cw_RX10_168 (by omega) (c_X10_isDisk hn ht hu hw hv h0) (ltn ltc_0 hn) lo_0 (by decide) rfl rfl rfl (Nat.le_of_ble_eq_true rfl) ?_
  clear h0
  refine J_if_eq hX 19 dX10_lose_5 (by decide) h (fun c h => ?_) (fun c h => ?_)
  · refine J_iconst hX (-1 : Int32) dX10_lose_19 ic_m1 ?_
    exact J_ireturn hX dX10_lose_20 h hF rfl
  · refine J_aload_n hX dX10_lose_8 rfl 0 rfl ?_
    refine J_getR hX dX10_lose_9 fl_RX10_60 (ltn ltc_0 hn) lo_0 rfl (rt_0_8 _ _ _ _ _) ?_
    refine J_iload_n hX dX10_lose_12 rfl 1 rfl ?_
    obtain ⟨r4, m3, h0, h⟩ := bd2_some h
    refine J_callVi (As := [.int x1]) (st := []) hX dX10_lose_13 cw_RX10_198 (by omega) (c_X6_loseDisk hn p_isSt_54 h0) (ltn ltc_54 hn) lo_54 (by decide) rfl rfl rfl (Nat.le_of_ble_eq_true rfl) ?_
    clear h0
    refine J_goto hX 20 dX10_lose_16 (by decide) ?_
    exact J_ireturn hX dX10_lose_20 h hF rfl
theorem c_X10_lose {G : GG} {l : Launch} {ρ : Nat → Nat} {n : Nat} {x : Option Nat} (hn : 126 ≤ n) {t : Nat} {u : Nat} {w : Nat} {v : Nat} (ht : isTo t) (hu : isTo u) (hw : isWk w) (hv : isWk v) {x1 : Int32} {m : Mm} {rE : Int32} {mE : Mm} (h : f_X10_lose t u w v x1 m = some (rE, mE)) : CT G l yX10_lose cX10_lose 2 (some .int) 2 0 0 ρ n (RT t u w v x) [.ref 0, .int x1] m (some (.int rE)) (RT t u w v x) mE := ct_of_J (by decide) rfl (Nat.le_of_ble_eq_true rfl) (fun X hX e1 e2 e3 e4 hQ hr hl => t_X10_lose hX (Nat.le_refl _) hn ht hu hw hv ⟨by rw [hQ, e3, e4], hr, hl⟩ h)
def f_X11_lose (x1 : Int32) (m : Mm) : Option (Int32 × Mm) := stI m 78 0 (0 : Int32) (fun m1 => bd2 (f_X11_isDisk x1 m1) (fun r3 m2 => (if r3 = 0 then some ((-1 : Int32), m2) else bd2 (f_X11_isUp x1 m2) (fun r5 m4 => (if r5 = 0 then some ((-1 : Int32), m4) else bd2 (f_X11_losesDisk x1 m4) (fun r7 m6 => some (r7, m6)))))))
theorem t_X11_lose {X : XX} {G : GG} {ρ : Nat → Nat} {n t u w v : Nat} {x : Option Nat} {d : Nat} (hX : Ok X G ρ cX11_lose 2 RX11 d) (hd0 : 2 ≤ d) (hn : 126 ≤ n) {rE : Int32} {mE : Mm} (hF : Fin' X G ρ n (some .int) (some (.int rE)) (RT t u w v x) mE) {x1 : Int32} {m : Mm} (h : f_X11_lose x1 m = some (rE, mE)) : J X G ρ n 2 0 [(0, .ref 78), (1, .int x1)] [] (RT t u w v x) m := by
  unfold f_X11_lose at h
  refine J_aload_n hX dX11_lose_0 rfl 0 rfl ?_
  refine J_iconst hX (0 : Int32) dX11_lose_1 ic_0 ?_
  refine J_putI hX dX11_lose_2 pl_RX11_152 (ltn ltc_78 hn) lo_78 rfl rfl rfl h (fun m1 h => ?_)
  refine J_aload_n hX dX11_lose_5 rfl 0 rfl ?_
  refine J_iload_n hX dX11_lose_6 rfl 1 rfl ?_
  obtain ⟨r3, m2, h0, h⟩ := bd2_some h
  refine J_callVi (As := [.int x1]) (st := []) hX dX11_lose_7 cw_RX11_385 (by omega) (c_X11_isDisk hn  h0) (ltn ltc_78 hn) lo_78 (by decide) rfl rfl rfl (Nat.le_of_ble_eq_true rfl) ?_
  clear h0
  refine J_if_eq hX 29 dX11_lose_10 (by decide) h (fun c h => ?_) (fun c h => ?_)
  · refine J_iconst hX (-1 : Int32) dX11_lose_29 ic_m1 ?_
    exact J_ireturn hX dX11_lose_30 h hF rfl
  · refine J_aload_n hX dX11_lose_13 rfl 0 rfl ?_
    refine J_iload_n hX dX11_lose_14 rfl 1 rfl ?_
    obtain ⟨r5, m4, h0, h⟩ := bd2_some h
    refine J_callVi (As := [.int x1]) (st := []) hX dX11_lose_15 cw_RX11_373 (by omega) (c_X11_isUp hn  h0) (ltn ltc_78 hn) lo_78 (by decide) rfl rfl rfl (Nat.le_of_ble_eq_true rfl) ?_
    clear h0
    refine J_if_eq hX 29 dX11_lose_18 (by decide) h (fun c h => ?_) (fun c h => ?_)
    · refine J_iconst hX (-1 : Int32) dX11_lose_29 ic_m1 ?_
      exact J_ireturn hX dX11_lose_30 h hF rfl
    · refine J_aload_n hX dX11_lose_21 rfl 0 rfl ?_
      refine J_iload_n hX dX11_lose_22 rfl 1 rfl ?_
      obtain ⟨r7, m6, h0, h⟩ := bd2_some h
      refine J_callVi (As := [.int x1]) (st := []) hX dX11_lose_23 cw_RX11_409 (by omega) (c_X11_losesDisk hn  h0) (ltn ltc_78 hn) lo_78 (by decide) rfl rfl rfl (Nat.le_of_ble_eq_true rfl) ?_
      clear h0
      refine J_goto hX 30 dX11_lose_26 (by decide) ?_
      exact J_ireturn hX dX11_lose_30 h hF rfl
theorem c_X11_lose {G : GG} {l : Launch} {ρ : Nat → Nat} {n t u w v : Nat} {x : Option Nat} (hn : 126 ≤ n) {x1 : Int32} {m : Mm} {rE : Int32} {mE : Mm} (h : f_X11_lose x1 m = some (rE, mE)) : CT G l yX11_lose cX11_lose 2 (some .int) 2 0 0 ρ n (RT t u w v x) [.ref 78, .int x1] m (some (.int rE)) (RT t u w v x) mE := ct_of_J (by decide) rfl (Nat.le_of_ble_eq_true rfl) (fun X hX e1 e2 e3 e4 hQ hr hl => t_X11_lose hX (Nat.le_refl _) hn ⟨by rw [hQ, e3, e4], hr, hl⟩ h)
def f_X10_replace (t : Nat) (u : Nat) (w : Nat) (v : Nat) (x1 : Int32) (m : Mm) : Option (Int32 × Mm) := bd2 (f_X10_isDisk t u w v x1 m) (fun r2 m1 => (if r2 = 0 then some ((0 : Int32), m1) else bd2 (f_X6_replaceDisk 54 x1 m1) (fun r4 m3 => (if r4 = 0 then some ((0 : Int32), m3) else some ((1 : Int32), m3)))))
theorem t_X10_replace {X : XX} {G : GG} {ρ : Nat → Nat} {n : Nat} {x : Option Nat} {d : Nat} {t : Nat} {u : Nat} {w : Nat} {v : Nat} (hX : Ok X G ρ cX10_replace 2 RX10 d) (hd0 : 2 ≤ d) (hn : 126 ≤ n) (ht : isTo t) (hu : isTo u) (hw : isWk w) (hv : isWk v) {rE : Int32} {mE : Mm} (hF : Fin' X G ρ n (some .boolean) (some (.int rE)) (RT t u w v x) mE) {x1 : Int32} {m : Mm} (h : f_X10_replace t u w v x1 m = some (rE, mE)) : J X G ρ n 2 0 [(0, .ref 0), (1, .int x1)] [] (RT t u w v x) m := by
  unfold f_X10_replace at h
  refine J_aload_n hX dX10_replace_0 rfl 0 rfl ?_
  refine J_iload_n hX dX10_replace_1 rfl 1 rfl ?_
  obtain ⟨r2, m1, h0, h⟩ := bd2_some h
  refine J_callVi (As := [.int x1]) (st := []) hX dX10_replace_2 cw_RX10_168 (by omega) (c_X10_isDisk hn ht hu hw hv h0) (ltn ltc_0 hn) lo_0 (by decide) rfl rfl rfl (Nat.le_of_ble_eq_true rfl) ?_
  clear h0
  refine J_if_eq hX 23 dX10_replace_5 (by decide) h (fun c h => ?_) (fun c h => ?_)
  · refine J_iconst hX (0 : Int32) dX10_replace_23 ic_0 ?_
    exact J_ireturn hX dX10_replace_24 h hF narrow_b0
  · refine J_aload_n hX dX10_replace_8 rfl 0 rfl ?_
    refine J_getR hX dX10_replace_9 fl_RX10_60 (ltn ltc_0 hn) lo_0 rfl (rt_0_8 _ _ _ _ _) ?_
    refine J_iload_n hX dX10_replace_12 rfl 1 rfl ?_
    obtain ⟨r4, m3, h0, h⟩ := bd2_some h
    refine J_callVi (As := [.int x1]) (st := []) hX dX10_replace_13 cw_RX10_201 (by omega) (c_X6_replaceDisk hn p_isSt_54 h0) (ltn ltc_54 hn) lo_54 (by decide) rfl rfl rfl (Nat.le_of_ble_eq_true rfl) ?_
    clear h0
    refine J_if_eq hX 23 dX10_replace_16 (by decide) h (fun c h => ?_) (fun c h => ?_)
    · refine J_iconst hX (0 : Int32) dX10_replace_23 ic_0 ?_
      exact J_ireturn hX dX10_replace_24 h hF narrow_b0
    · refine J_iconst hX (1 : Int32) dX10_replace_19 ic_1 ?_
      refine J_goto hX 24 dX10_replace_20 (by decide) ?_
      exact J_ireturn hX dX10_replace_24 h hF narrow_b1
theorem c_X10_replace {G : GG} {l : Launch} {ρ : Nat → Nat} {n : Nat} {x : Option Nat} (hn : 126 ≤ n) {t : Nat} {u : Nat} {w : Nat} {v : Nat} (ht : isTo t) (hu : isTo u) (hw : isWk w) (hv : isWk v) {x1 : Int32} {m : Mm} {rE : Int32} {mE : Mm} (h : f_X10_replace t u w v x1 m = some (rE, mE)) : CT G l yX10_replace cX10_replace 2 (some .boolean) 2 0 0 ρ n (RT t u w v x) [.ref 0, .int x1] m (some (.int rE)) (RT t u w v x) mE := ct_of_J (by decide) rfl (Nat.le_of_ble_eq_true rfl) (fun X hX e1 e2 e3 e4 hQ hr hl => t_X10_replace hX (Nat.le_refl _) hn ht hu hw hv ⟨by rw [hQ, e3, e4], hr, hl⟩ h)
def f_X11_replace (x1 : Int32) (m : Mm) : Option (Int32 × Mm) := stI m 78 0 (0 : Int32) (fun m1 => bd2 (f_X11_isDisk x1 m1) (fun r3 m2 => (if r3 = 0 then some ((0 : Int32), m2) else bd2 (f_X11_isUp x1 m2) (fun r5 m4 => (if r5 = 0 then stI m4 117 (ix (0 : Int32)) ((gI m4 117 (ix (0 : Int32))) ||| ((1 : Int32) <<< (x1 &&& 31))) (fun m6 => some ((1 : Int32), m6)) else some ((0 : Int32), m4))))))
theorem t_X11_replace {X : XX} {G : GG} {ρ : Nat → Nat} {n t u w v : Nat} {x : Option Nat} {d : Nat} (hX : Ok X G ρ cX11_replace 2 RX11 d) (hd0 : 2 ≤ d) (hn : 126 ≤ n) {rE : Int32} {mE : Mm} (hF : Fin' X G ρ n (some .boolean) (some (.int rE)) (RT t u w v x) mE) {x1 : Int32} {m : Mm} (h : f_X11_replace x1 m = some (rE, mE)) : J X G ρ n 2 0 [(0, .ref 78), (1, .int x1)] [] (RT t u w v x) m := by
  unfold f_X11_replace at h
  refine J_aload_n hX dX11_replace_0 rfl 0 rfl ?_
  refine J_iconst hX (0 : Int32) dX11_replace_1 ic_0 ?_
  refine J_putI hX dX11_replace_2 pl_RX11_152 (ltn ltc_78 hn) lo_78 rfl rfl rfl h (fun m1 h => ?_)
  refine J_aload_n hX dX11_replace_5 rfl 0 rfl ?_
  refine J_iload_n hX dX11_replace_6 rfl 1 rfl ?_
  obtain ⟨r3, m2, h0, h⟩ := bd2_some h
  refine J_callVi (As := [.int x1]) (st := []) hX dX11_replace_7 cw_RX11_385 (by omega) (c_X11_isDisk hn  h0) (ltn ltc_78 hn) lo_78 (by decide) rfl rfl rfl (Nat.le_of_ble_eq_true rfl) ?_
  clear h0
  refine J_if_eq hX 21 dX11_replace_10 (by decide) h (fun c h => ?_) (fun c h => ?_)
  · refine J_iconst hX (0 : Int32) dX11_replace_21 ic_0 ?_
    exact J_ireturn hX dX11_replace_22 h hF narrow_b0
  · refine J_aload_n hX dX11_replace_13 rfl 0 rfl ?_
    refine J_iload_n hX dX11_replace_14 rfl 1 rfl ?_
    obtain ⟨r5, m4, h0, h⟩ := bd2_some h
    refine J_callVi (As := [.int x1]) (st := []) hX dX11_replace_15 cw_RX11_373 (by omega) (c_X11_isUp hn  h0) (ltn ltc_78 hn) lo_78 (by decide) rfl rfl rfl (Nat.le_of_ble_eq_true rfl) ?_
    clear h0
    refine J_if_eq hX 23 dX11_replace_18 (by decide) h (fun c h => ?_) (fun c h => ?_)
    · refine J_aload_n hX dX11_replace_23 rfl 0 rfl ?_
      refine J_getR hX dX11_replace_24 fl_RX11_125 (ltn ltc_78 hn) lo_78 rfl (rt_78_50 _ _ _ _ _) ?_
      refine J_iconst hX (0 : Int32) dX11_replace_27 ic_0 ?_
      refine J_dup2 hX dX11_replace_28 rfl rfl ?_
      refine J_iaload0 hX dX11_replace_29 (ltn ltc_117 hn) lay_117 (by decide) ?_
      refine J_iconst hX (1 : Int32) dX11_replace_30 ic_1 ?_
      refine J_iload_n hX dX11_replace_31 rfl 1 rfl ?_
      refine J_ishl hX dX11_replace_32 ?_
      refine J_ior hX dX11_replace_33 ?_
      refine J_iastore0 hX dX11_replace_34 (ltn ltc_117 hn) lay_117 (by decide) h (fun m6 h => ?_)
      refine J_iconst hX (1 : Int32) dX11_replace_35 ic_1 ?_
      exact J_ireturn hX dX11_replace_36 h hF narrow_b1
    · refine J_iconst hX (0 : Int32) dX11_replace_21 ic_0 ?_
      exact J_ireturn hX dX11_replace_22 h hF narrow_b0
theorem c_X11_replace {G : GG} {l : Launch} {ρ : Nat → Nat} {n t u w v : Nat} {x : Option Nat} (hn : 126 ≤ n) {x1 : Int32} {m : Mm} {rE : Int32} {mE : Mm} (h : f_X11_replace x1 m = some (rE, mE)) : CT G l yX11_replace cX11_replace 2 (some .boolean) 2 0 0 ρ n (RT t u w v x) [.ref 78, .int x1] m (some (.int rE)) (RT t u w v x) mE := ct_of_J (by decide) rfl (Nat.le_of_ble_eq_true rfl) (fun X hX e1 e2 e3 e4 hQ hr hl => t_X11_replace hX (Nat.le_refl _) hn ⟨by rw [hQ, e3, e4], hr, hl⟩ h)
def f_X10_rebuild (t : Nat) (u : Nat) (w : Nat) (v : Nat) (x1 : Int32) (m : Mm) : Option (Int32 × Mm) := (if x1 < (1 : Int32) then some ((-1 : Int32), m) else (if (40 : Int32) < x1 then some ((-1 : Int32), m) else bd2 (f_X6_rebuildUnits 54 x1 m) (fun r2 m1 => some (r2, m1))))
theorem t_X10_rebuild {X : XX} {G : GG} {ρ : Nat → Nat} {n : Nat} {x : Option Nat} {d : Nat} {t : Nat} {u : Nat} {w : Nat} {v : Nat} (hX : Ok X G ρ cX10_rebuild 2 RX10 d) (hd0 : 4 ≤ d) (hn : 126 ≤ n) (ht : isTo t) (hu : isTo u) (hw : isWk w) (hv : isWk v) {rE : Int32} {mE : Mm} (hF : Fin' X G ρ n (some .int) (some (.int rE)) (RT t u w v x) mE) {x1 : Int32} {m : Mm} (h : f_X10_rebuild t u w v x1 m = some (rE, mE)) : J X G ρ n 2 0 [(0, .ref 0), (1, .int x1)] [] (RT t u w v x) m := by
  unfold f_X10_rebuild at h
  refine J_iload_n hX dX10_rebuild_0 rfl 1 rfl ?_
  refine J_iconst hX (1 : Int32) dX10_rebuild_1 ic_1 ?_
  refine J_icmp_lt hX 22 dX10_rebuild_2 (by decide) h (fun c h => ?_) (fun c h => ?_)
  · refine J_iconst hX (-1 : Int32) dX10_rebuild_22 ic_m1 ?_
    exact J_ireturn hX dX10_rebuild_23 h hF rfl
  · refine J_iload_n hX dX10_rebuild_5 rfl 1 rfl ?_
    refine J_bipush hX (40 : Int32) dX10_rebuild_6 (by decide) ?_
    refine J_icmp_gt hX 22 dX10_rebuild_8 (by decide) h (fun c h => ?_) (fun c h => ?_)
    · refine J_iconst hX (-1 : Int32) dX10_rebuild_22 ic_m1 ?_
      exact J_ireturn hX dX10_rebuild_23 h hF rfl
    · refine J_aload_n hX dX10_rebuild_11 rfl 0 rfl ?_
      refine J_getR hX dX10_rebuild_12 fl_RX10_60 (ltn ltc_0 hn) lo_0 rfl (rt_0_8 _ _ _ _ _) ?_
      refine J_iload_n hX dX10_rebuild_15 rfl 1 rfl ?_
      obtain ⟨r2, m1, h0, h⟩ := bd2_some h
      refine J_callVi (As := [.int x1]) (st := []) hX dX10_rebuild_16 cw_RX10_204 (by omega) (c_X6_rebuildUnits hn p_isSt_54 h0) (ltn ltc_54 hn) lo_54 (by decide) rfl rfl rfl (Nat.le_of_ble_eq_true rfl) ?_
      clear h0
      refine J_goto hX 23 dX10_rebuild_19 (by decide) ?_
      exact J_ireturn hX dX10_rebuild_23 h hF rfl
theorem c_X10_rebuild {G : GG} {l : Launch} {ρ : Nat → Nat} {n : Nat} {x : Option Nat} (hn : 126 ≤ n) {t : Nat} {u : Nat} {w : Nat} {v : Nat} (ht : isTo t) (hu : isTo u) (hw : isWk w) (hv : isWk v) {x1 : Int32} {m : Mm} {rE : Int32} {mE : Mm} (h : f_X10_rebuild t u w v x1 m = some (rE, mE)) : CT G l yX10_rebuild cX10_rebuild 2 (some .int) 4 0 0 ρ n (RT t u w v x) [.ref 0, .int x1] m (some (.int rE)) (RT t u w v x) mE := ct_of_J (by decide) rfl (Nat.le_of_ble_eq_true rfl) (fun X hX e1 e2 e3 e4 hQ hr hl => t_X10_rebuild hX (Nat.le_refl _) hn ht hu hw hv ⟨by rw [hQ, e3, e4], hr, hl⟩ h)
def f_X11_rebuild (x1 : Int32) (m : Mm) : Option (Int32 × Mm) := stI m 78 0 (0 : Int32) (fun m1 => bd2 (f_X11_within x1 (1 : Int32) (40 : Int32) m1) (fun r3 m2 => (if r3 = 0 then some ((-1 : Int32), m2) else bd2 (f_X11_rebuilds x1 m2) (fun r5 m4 => some (r5, m4)))))
theorem t_X11_rebuild {X : XX} {G : GG} {ρ : Nat → Nat} {n t u w v : Nat} {x : Option Nat} {d : Nat} (hX : Ok X G ρ cX11_rebuild 2 RX11 d) (hd0 : 3 ≤ d) (hn : 126 ≤ n) {rE : Int32} {mE : Mm} (hF : Fin' X G ρ n (some .int) (some (.int rE)) (RT t u w v x) mE) {x1 : Int32} {m : Mm} (h : f_X11_rebuild x1 m = some (rE, mE)) : J X G ρ n 2 0 [(0, .ref 78), (1, .int x1)] [] (RT t u w v x) m := by
  unfold f_X11_rebuild at h
  refine J_aload_n hX dX11_rebuild_0 rfl 0 rfl ?_
  refine J_iconst hX (0 : Int32) dX11_rebuild_1 ic_0 ?_
  refine J_putI hX dX11_rebuild_2 pl_RX11_152 (ltn ltc_78 hn) lo_78 rfl rfl rfl h (fun m1 h => ?_)
  refine J_iload_n hX dX11_rebuild_5 rfl 1 rfl ?_
  refine J_iconst hX (1 : Int32) dX11_rebuild_6 ic_1 ?_
  refine J_bipush hX (40 : Int32) dX11_rebuild_7 (by decide) ?_
  obtain ⟨r3, m2, h0, h⟩ := bd2_some h
  refine J_callSi (As := [.int x1, .int (1 : Int32), .int (40 : Int32)]) (st := []) hX dX11_rebuild_9 cw_RX11_239 (by omega) (c_X11_within hn  h0) rfl rfl (Nat.le_of_ble_eq_true rfl) ?_
  clear h0
  refine J_if_eq hX 23 dX11_rebuild_12 (by decide) h (fun c h => ?_) (fun c h => ?_)
  · refine J_iconst hX (-1 : Int32) dX11_rebuild_23 ic_m1 ?_
    exact J_ireturn hX dX11_rebuild_24 h hF rfl
  · refine J_aload_n hX dX11_rebuild_15 rfl 0 rfl ?_
    refine J_iload_n hX dX11_rebuild_16 rfl 1 rfl ?_
    obtain ⟨r5, m4, h0, h⟩ := bd2_some h
    refine J_callVi (As := [.int x1]) (st := []) hX dX11_rebuild_17 cw_RX11_412 (by omega) (c_X11_rebuilds hn  h0) (ltn ltc_78 hn) lo_78 (by decide) rfl rfl rfl (Nat.le_of_ble_eq_true rfl) ?_
    clear h0
    refine J_goto hX 24 dX11_rebuild_20 (by decide) ?_
    exact J_ireturn hX dX11_rebuild_24 h hF rfl
theorem c_X11_rebuild {G : GG} {l : Launch} {ρ : Nat → Nat} {n t u w v : Nat} {x : Option Nat} (hn : 126 ≤ n) {x1 : Int32} {m : Mm} {rE : Int32} {mE : Mm} (h : f_X11_rebuild x1 m = some (rE, mE)) : CT G l yX11_rebuild cX11_rebuild 2 (some .int) 3 0 0 ρ n (RT t u w v x) [.ref 78, .int x1] m (some (.int rE)) (RT t u w v x) mE := ct_of_J (by decide) rfl (Nat.le_of_ble_eq_true rfl) (fun X hX e1 e2 e3 e4 hQ hr hl => t_X11_rebuild hX (Nat.le_refl _) hn ⟨by rw [hQ, e3, e4], hr, hl⟩ h)
def f_X10_home (t : Nat) (u : Nat) (w : Nat) (v : Nat) (x1 : Int32) (m : Mm) : Option (Int32 × Mm) := (if x1 < (1 : Int32) then some ((-1 : Int32), m) else (if (40 : Int32) < x1 then some ((-1 : Int32), m) else bd2 (f_X6_bringHome 54 x1 m) (fun r2 m1 => some (r2, m1))))
theorem t_X10_home {X : XX} {G : GG} {ρ : Nat → Nat} {n : Nat} {x : Option Nat} {d : Nat} {t : Nat} {u : Nat} {w : Nat} {v : Nat} (hX : Ok X G ρ cX10_home 2 RX10 d) (hd0 : 3 ≤ d) (hn : 126 ≤ n) (ht : isTo t) (hu : isTo u) (hw : isWk w) (hv : isWk v) {rE : Int32} {mE : Mm} (hF : Fin' X G ρ n (some .int) (some (.int rE)) (RT t u w v x) mE) {x1 : Int32} {m : Mm} (h : f_X10_home t u w v x1 m = some (rE, mE)) : J X G ρ n 2 0 [(0, .ref 0), (1, .int x1)] [] (RT t u w v x) m := by
  unfold f_X10_home at h
  refine J_iload_n hX dX10_home_0 rfl 1 rfl ?_
  refine J_iconst hX (1 : Int32) dX10_home_1 ic_1 ?_
  refine J_icmp_lt hX 22 dX10_home_2 (by decide) h (fun c h => ?_) (fun c h => ?_)
  · refine J_iconst hX (-1 : Int32) dX10_home_22 ic_m1 ?_
    exact J_ireturn hX dX10_home_23 h hF rfl
  · refine J_iload_n hX dX10_home_5 rfl 1 rfl ?_
    refine J_bipush hX (40 : Int32) dX10_home_6 (by decide) ?_
    refine J_icmp_gt hX 22 dX10_home_8 (by decide) h (fun c h => ?_) (fun c h => ?_)
    · refine J_iconst hX (-1 : Int32) dX10_home_22 ic_m1 ?_
      exact J_ireturn hX dX10_home_23 h hF rfl
    · refine J_aload_n hX dX10_home_11 rfl 0 rfl ?_
      refine J_getR hX dX10_home_12 fl_RX10_60 (ltn ltc_0 hn) lo_0 rfl (rt_0_8 _ _ _ _ _) ?_
      refine J_iload_n hX dX10_home_15 rfl 1 rfl ?_
      obtain ⟨r2, m1, h0, h⟩ := bd2_some h
      refine J_callVi (As := [.int x1]) (st := []) hX dX10_home_16 cw_RX10_207 (by omega) (c_X6_bringHome hn p_isSt_54 h0) (ltn ltc_54 hn) lo_54 (by decide) rfl rfl rfl (Nat.le_of_ble_eq_true rfl) ?_
      clear h0
      refine J_goto hX 23 dX10_home_19 (by decide) ?_
      exact J_ireturn hX dX10_home_23 h hF rfl
theorem c_X10_home {G : GG} {l : Launch} {ρ : Nat → Nat} {n : Nat} {x : Option Nat} (hn : 126 ≤ n) {t : Nat} {u : Nat} {w : Nat} {v : Nat} (ht : isTo t) (hu : isTo u) (hw : isWk w) (hv : isWk v) {x1 : Int32} {m : Mm} {rE : Int32} {mE : Mm} (h : f_X10_home t u w v x1 m = some (rE, mE)) : CT G l yX10_home cX10_home 2 (some .int) 3 0 0 ρ n (RT t u w v x) [.ref 0, .int x1] m (some (.int rE)) (RT t u w v x) mE := ct_of_J (by decide) rfl (Nat.le_of_ble_eq_true rfl) (fun X hX e1 e2 e3 e4 hQ hr hl => t_X10_home hX (Nat.le_refl _) hn ht hu hw hv ⟨by rw [hQ, e3, e4], hr, hl⟩ h)
def f_X11_home (x1 : Int32) (m : Mm) : Option (Int32 × Mm) := stI m 78 0 (0 : Int32) (fun m1 => bd2 (f_X11_within x1 (1 : Int32) (40 : Int32) m1) (fun r3 m2 => (if r3 = 0 then some ((-1 : Int32), m2) else bd2 (f_X11_goesHome x1 m2) (fun r5 m4 => some (r5, m4)))))
theorem t_X11_home {X : XX} {G : GG} {ρ : Nat → Nat} {n t u w v : Nat} {x : Option Nat} {d : Nat} (hX : Ok X G ρ cX11_home 2 RX11 d) (hd0 : 3 ≤ d) (hn : 126 ≤ n) {rE : Int32} {mE : Mm} (hF : Fin' X G ρ n (some .int) (some (.int rE)) (RT t u w v x) mE) {x1 : Int32} {m : Mm} (h : f_X11_home x1 m = some (rE, mE)) : J X G ρ n 2 0 [(0, .ref 78), (1, .int x1)] [] (RT t u w v x) m := by
  unfold f_X11_home at h
  refine J_aload_n hX dX11_home_0 rfl 0 rfl ?_
  refine J_iconst hX (0 : Int32) dX11_home_1 ic_0 ?_
  refine J_putI hX dX11_home_2 pl_RX11_152 (ltn ltc_78 hn) lo_78 rfl rfl rfl h (fun m1 h => ?_)
  refine J_iload_n hX dX11_home_5 rfl 1 rfl ?_
  refine J_iconst hX (1 : Int32) dX11_home_6 ic_1 ?_
  refine J_bipush hX (40 : Int32) dX11_home_7 (by decide) ?_
  obtain ⟨r3, m2, h0, h⟩ := bd2_some h
  refine J_callSi (As := [.int x1, .int (1 : Int32), .int (40 : Int32)]) (st := []) hX dX11_home_9 cw_RX11_239 (by omega) (c_X11_within hn  h0) rfl rfl (Nat.le_of_ble_eq_true rfl) ?_
  clear h0
  refine J_if_eq hX 23 dX11_home_12 (by decide) h (fun c h => ?_) (fun c h => ?_)
  · refine J_iconst hX (-1 : Int32) dX11_home_23 ic_m1 ?_
    exact J_ireturn hX dX11_home_24 h hF rfl
  · refine J_aload_n hX dX11_home_15 rfl 0 rfl ?_
    refine J_iload_n hX dX11_home_16 rfl 1 rfl ?_
    obtain ⟨r5, m4, h0, h⟩ := bd2_some h
    refine J_callVi (As := [.int x1]) (st := []) hX dX11_home_17 cw_RX11_415 (by omega) (c_X11_goesHome hn  h0) (ltn ltc_78 hn) lo_78 (by decide) rfl rfl rfl (Nat.le_of_ble_eq_true rfl) ?_
    clear h0
    refine J_goto hX 24 dX11_home_20 (by decide) ?_
    exact J_ireturn hX dX11_home_24 h hF rfl
theorem c_X11_home {G : GG} {l : Launch} {ρ : Nat → Nat} {n t u w v : Nat} {x : Option Nat} (hn : 126 ≤ n) {x1 : Int32} {m : Mm} {rE : Int32} {mE : Mm} (h : f_X11_home x1 m = some (rE, mE)) : CT G l yX11_home cX11_home 2 (some .int) 3 0 0 ρ n (RT t u w v x) [.ref 78, .int x1] m (some (.int rE)) (RT t u w v x) mE := ct_of_J (by decide) rfl (Nat.le_of_ble_eq_true rfl) (fun X hX e1 e2 e3 e4 hQ hr hl => t_X11_home hX (Nat.le_refl _) hn ⟨by rw [hQ, e3, e4], hr, hl⟩ h)
def f_X10_judged_L23 (t : Nat) (u : Nat) (w : Nat) (v : Nat) : Nat → Int32 → Int32 → Int32 →  Mm → Option (Int32 × Mm)
  | 0, _, _, _, _ => none
  | k + 1, v1, v2, v3, m => (if v3 < (gI m w 4) then gd (inb v3 40) (gd (inb v3 40) (gd (inb v3 40) (bd2 (f_X6_perform 59 (gI m (w + 1) (ix v3)) (gI m (w + 2) (ix v3)) (gI m (w + 3) (ix v3)) m) (fun r7 m6 => (if r7 = 0 then (if v2 = (-1 : Int32) then f_X10_judged_L23 t u w v k v1 v3 (v3 + (1 : Int32)) m6 else f_X10_judged_L23 t u w v k v1 v2 (v3 + (1 : Int32)) m6) else f_X10_judged_L23 t u w v k v1 v2 (v3 + (1 : Int32)) m6))))) else (if v1 = 0 then some (v2, m) else (if v1 = (1 : Int32) then bd2 (f_X6_allLoads 59 m) (fun r5 m4 => some (r5, m4)) else bd2 (f_X6_deadStripes 59 m) (fun r3 m2 => some (r3, m2)))))
theorem t_X10_judged_L23 {X : XX} {G : GG} {ρ : Nat → Nat} {n : Nat} {x : Option Nat} {d : Nat} {t : Nat} {u : Nat} {w : Nat} {v : Nat} (hX : Ok X G ρ cX10_judged 5 RX10 d) (hd0 : 5 ≤ d) (hn : 126 ≤ n) (ht : isTo t) (hu : isTo u) (hw : isWk w) (hv : isWk v) {rE : Int32} {mE : Mm} (hF : Fin' X G ρ n (some .int) (some (.int rE)) (RT t u w v x) mE) : ∀ (k : Nat) (v1 : Int32) (v2 : Int32) (v3 : Int32) (m : Mm), f_X10_judged_L23 t u w v k v1 v2 v3 m = some (rE, mE) → J X G ρ n 5 23 [(0, .ref 0), (1, .int v1), (2, .int v2), (3, .int v3)] [] (RT t u w v x) m := by
  intro k
  induction k with
  | zero => intro _ _ _ _ h; rw [f_X10_judged_L23] at h; cases h
  | succ k ih =>
    intro v1 v2 v3 m h
    rw [f_X10_judged_L23] at h
    refine J_iload_n hX dX10_judged_23 rfl 3 rfl ?_
    refine J_aload_n hX dX10_judged_24 rfl 0 rfl ?_
    refine J_getR hX dX10_judged_25 fl_RX10_38 (ltn ltc_0 hn) lo_0 rfl (rt_0_4 _ _ _ _ _) ?_
    refine J_getI hX dX10_judged_28 fl_RX10_103 (ltn (lt_isWk_0 hw) hn) (lo_isWk_0 hw) rfl ?_
    refine J_icmp_ge hX 88 dX10_judged_31 (by decide) h (fun c h => ?_) (fun c h => ?_)
    · refine J_aload_n hX dX10_judged_34 rfl 0 rfl ?_
      refine J_getR hX dX10_judged_35 fl_RX10_64 (ltn ltc_0 hn) lo_0 rfl (rt_0_9 _ _ _ _ _) ?_
      refine J_aload_n hX dX10_judged_38 rfl 0 rfl ?_
      refine J_getR hX dX10_judged_39 fl_RX10_38 (ltn ltc_0 hn) lo_0 rfl (rt_0_4 _ _ _ _ _) ?_
      refine J_getR hX dX10_judged_42 fl_RX10_210 (ltn (lt_isWk_0 hw) hn) (lo_isWk_0 hw) rfl (rt_isWk_0_1 _ _ _ _ _ hw) ?_
      refine J_iload_n hX dX10_judged_45 rfl 3 rfl ?_
      refine J_iaload hX dX10_judged_46 (ltn (lt_isWk_1 hw) hn) (lay_isWk_1 hw) h (fun h => ?_)
      refine J_aload_n hX dX10_judged_47 rfl 0 rfl ?_
      refine J_getR hX dX10_judged_48 fl_RX10_38 (ltn ltc_0 hn) lo_0 rfl (rt_0_4 _ _ _ _ _) ?_
      refine J_getR hX dX10_judged_51 fl_RX10_213 (ltn (lt_isWk_0 hw) hn) (lo_isWk_0 hw) rfl (rt_isWk_0_2 _ _ _ _ _ hw) ?_
      refine J_iload_n hX dX10_judged_54 rfl 3 rfl ?_
      refine J_iaload hX dX10_judged_55 (ltn (lt_isWk_2 hw) hn) (lay_isWk_2 hw) h (fun h => ?_)
      refine J_aload_n hX dX10_judged_56 rfl 0 rfl ?_
      refine J_getR hX dX10_judged_57 fl_RX10_38 (ltn ltc_0 hn) lo_0 rfl (rt_0_4 _ _ _ _ _) ?_
      refine J_getR hX dX10_judged_60 fl_RX10_216 (ltn (lt_isWk_0 hw) hn) (lo_isWk_0 hw) rfl (rt_isWk_0_3 _ _ _ _ _ hw) ?_
      refine J_iload_n hX dX10_judged_63 rfl 3 rfl ?_
      refine J_iaload hX dX10_judged_64 (ltn (lt_isWk_3 hw) hn) (lay_isWk_3 hw) h (fun h => ?_)
      obtain ⟨r7, m6, h0, h⟩ := bd2_some h
      refine J_callVi (As := [.int (gI m (w + 1) (ix v3)), .int (gI m (w + 2) (ix v3)), .int (gI m (w + 3) (ix v3))]) (st := []) hX dX10_judged_65 cw_RX10_219 (by omega) (c_X6_perform hn p_isSt_59 h0) (ltn ltc_59 hn) lo_59 (by decide) rfl rfl rfl (Nat.le_of_ble_eq_true rfl) ?_
      clear h0
      refine J_istore hX [(4, .int r7), (0, .ref 0), (1, .int v1), (2, .int v2), (3, .int v3)] dX10_judged_68 (by decide) rfl ?_
      refine J_iload hX dX10_judged_70 0 rfl ?_
      refine J_if_ne hX 82 dX10_judged_72 (by decide) h (fun c h => ?_) (fun c h => ?_)
      · refine J_iload_n hX dX10_judged_75 rfl 3 rfl ?_
        refine J_iconst hX (-1 : Int32) dX10_judged_76 ic_m1 ?_
        refine J_icmp_ne hX 82 dX10_judged_77 (by decide) h (fun c h => ?_) (fun c h => ?_)
        · refine J_iload_n hX dX10_judged_80 rfl 4 rfl ?_
          refine J_istore_n hX [(2, .int v3), (4, .int r7), (0, .ref 0), (1, .int v1), (3, .int v3)] dX10_judged_81 rfl (by decide) rfl ?_
          refine J_iinc hX (v3 + (1 : Int32)) [(3, .int (v3 + (1 : Int32))), (2, .int v3), (4, .int r7), (0, .ref 0), (1, .int v1)] dX10_judged_82 4 rfl (congrArg (fun z => v3 + z) ic_1) (by decide) rfl ?_
          refine J_goto hX 23 dX10_judged_85 (by decide) ?_
          refine J_sub [(0, .ref 0), (1, .int v1), (2, .int v3), (3, .int (v3 + (1 : Int32)))] [3, 4, 1, 0] rfl ?_
          exact ih v1 v3 (v3 + (1 : Int32)) m6 h
        · refine J_iinc hX (v3 + (1 : Int32)) [(3, .int (v3 + (1 : Int32))), (4, .int r7), (0, .ref 0), (1, .int v1), (2, .int v2)] dX10_judged_82 4 rfl (congrArg (fun z => v3 + z) ic_1) (by decide) rfl ?_
          refine J_goto hX 23 dX10_judged_85 (by decide) ?_
          refine J_sub [(0, .ref 0), (1, .int v1), (2, .int v2), (3, .int (v3 + (1 : Int32)))] [2, 3, 4, 0] rfl ?_
          exact ih v1 v2 (v3 + (1 : Int32)) m6 h
      · refine J_iinc hX (v3 + (1 : Int32)) [(3, .int (v3 + (1 : Int32))), (4, .int r7), (0, .ref 0), (1, .int v1), (2, .int v2)] dX10_judged_82 4 rfl (congrArg (fun z => v3 + z) ic_1) (by decide) rfl ?_
        refine J_goto hX 23 dX10_judged_85 (by decide) ?_
        refine J_sub [(0, .ref 0), (1, .int v1), (2, .int v2), (3, .int (v3 + (1 : Int32)))] [2, 3, 4, 0] rfl ?_
        exact ih v1 v2 (v3 + (1 : Int32)) m6 h
    · refine J_iload_n hX dX10_judged_88 rfl 1 rfl ?_
      refine J_if_ne hX 96 dX10_judged_89 (by decide) h (fun c h => ?_) (fun c h => ?_)
      · refine J_iload_n hX dX10_judged_92 rfl 2 rfl ?_
        refine J_goto hX 118 dX10_judged_93 (by decide) ?_
        exact J_ireturn hX dX10_judged_118 h hF rfl
      · refine J_iload_n hX dX10_judged_96 rfl 1 rfl ?_
        refine J_iconst hX (1 : Int32) dX10_judged_97 ic_1 ?_
        refine J_icmp_ne hX 111 dX10_judged_98 (by decide) h (fun c h => ?_) (fun c h => ?_)
        · refine J_aload_n hX dX10_judged_101 rfl 0 rfl ?_
          refine J_getR hX dX10_judged_102 fl_RX10_64 (ltn ltc_0 hn) lo_0 rfl (rt_0_9 _ _ _ _ _) ?_
          obtain ⟨r5, m4, h0, h⟩ := bd2_some h
          refine J_callVi (As := []) (st := []) hX dX10_judged_105 cw_RX10_223 (by omega) (c_X6_allLoads hn p_isSt_59 h0) (ltn ltc_59 hn) lo_59 (by decide) rfl rfl rfl (Nat.le_of_ble_eq_true rfl) ?_
          clear h0
          refine J_goto hX 118 dX10_judged_108 (by decide) ?_
          exact J_ireturn hX dX10_judged_118 h hF rfl
        · refine J_aload_n hX dX10_judged_111 rfl 0 rfl ?_
          refine J_getR hX dX10_judged_112 fl_RX10_64 (ltn ltc_0 hn) lo_0 rfl (rt_0_9 _ _ _ _ _) ?_
          obtain ⟨r3, m2, h0, h⟩ := bd2_some h
          refine J_callVi (As := []) (st := []) hX dX10_judged_115 cw_RX10_227 (by omega) (c_X6_deadStripes hn p_isSt_59 h0) (ltn ltc_59 hn) lo_59 (by decide) rfl rfl rfl (Nat.le_of_ble_eq_true rfl) ?_
          clear h0
          exact J_ireturn hX dX10_judged_118 h hF rfl
def f_X10_judged (t : Nat) (u : Nat) (w : Nat) (v : Nat) (x1 : Int32) (m : Mm) : Option (Int32 × Mm) := (if x1 < 0 then some ((-2 : Int32), m) else (if (2 : Int32) < x1 then some ((-2 : Int32), m) else bd1 (f_X6_begin 59 m) (fun m1 => f_X10_judged_L23 t u w v FU x1 (-1 : Int32) (0 : Int32)  m1)))
theorem t_X10_judged {X : XX} {G : GG} {ρ : Nat → Nat} {n : Nat} {x : Option Nat} {d : Nat} {t : Nat} {u : Nat} {w : Nat} {v : Nat} (hX : Ok X G ρ cX10_judged 5 RX10 d) (hd0 : 5 ≤ d) (hn : 126 ≤ n) (ht : isTo t) (hu : isTo u) (hw : isWk w) (hv : isWk v) {rE : Int32} {mE : Mm} (hF : Fin' X G ρ n (some .int) (some (.int rE)) (RT t u w v x) mE) {x1 : Int32} {m : Mm} (h : f_X10_judged t u w v x1 m = some (rE, mE)) : J X G ρ n 5 0 [(0, .ref 0), (1, .int x1)] [] (RT t u w v x) m := by
  unfold f_X10_judged at h
  refine J_iload_n hX dX10_judged_0 rfl 1 rfl ?_
  refine J_if_lt hX 9 dX10_judged_1 (by decide) h (fun c h => ?_) (fun c h => ?_)
  · refine J_bipush hX (-2 : Int32) dX10_judged_9 (by decide) ?_
    exact J_ireturn hX dX10_judged_11 h hF rfl
  · refine J_iload_n hX dX10_judged_4 rfl 1 rfl ?_
    refine J_iconst hX (2 : Int32) dX10_judged_5 ic_2 ?_
    refine J_icmp_le hX 12 dX10_judged_6 (by decide) h (fun c h => ?_) (fun c h => ?_)
    · refine J_bipush hX (-2 : Int32) dX10_judged_9 (by decide) ?_
      exact J_ireturn hX dX10_judged_11 h hF rfl
    · refine J_aload_n hX dX10_judged_12 rfl 0 rfl ?_
      refine J_getR hX dX10_judged_13 fl_RX10_64 (ltn ltc_0 hn) lo_0 rfl (rt_0_9 _ _ _ _ _) ?_
      obtain ⟨m1, h0, h⟩ := bd1_some h
      refine J_callVv (As := []) (st := []) hX dX10_judged_16 cw_RX10_104 (by omega) (c_X6_begin hn p_isSt_59 h0) (ltn ltc_59 hn) lo_59 (by decide) rfl rfl rfl (Nat.le_of_ble_eq_true rfl) ?_
      clear h0
      refine J_iconst hX (-1 : Int32) dX10_judged_19 ic_m1 ?_
      refine J_istore_n hX [(2, .int (-1 : Int32)), (0, .ref 0), (1, .int x1)] dX10_judged_20 rfl (by decide) rfl ?_
      refine J_iconst hX (0 : Int32) dX10_judged_21 ic_0 ?_
      refine J_istore_n hX [(3, .int (0 : Int32)), (2, .int (-1 : Int32)), (0, .ref 0), (1, .int x1)] dX10_judged_22 rfl (by decide) rfl ?_
      refine J_sub [(0, .ref 0), (1, .int x1), (2, .int (-1 : Int32)), (3, .int (0 : Int32))] [2, 3, 1, 0] rfl ?_
      exact t_X10_judged_L23 hX hd0 hn ht hu hw hv hF FU x1 (-1 : Int32) (0 : Int32)  m1 h
theorem c_X10_judged {G : GG} {l : Launch} {ρ : Nat → Nat} {n : Nat} {x : Option Nat} (hn : 126 ≤ n) {t : Nat} {u : Nat} {w : Nat} {v : Nat} (ht : isTo t) (hu : isTo u) (hw : isWk w) (hv : isWk v) {x1 : Int32} {m : Mm} {rE : Int32} {mE : Mm} (h : f_X10_judged t u w v x1 m = some (rE, mE)) : CT G l yX10_judged cX10_judged 5 (some .int) 5 0 0 ρ n (RT t u w v x) [.ref 0, .int x1] m (some (.int rE)) (RT t u w v x) mE := ct_of_J (by decide) rfl (Nat.le_of_ble_eq_true rfl) (fun X hX e1 e2 e3 e4 hQ hr hl => t_X10_judged hX (Nat.le_refl _) hn ht hu hw hv ⟨by rw [hQ, e3, e4], hr, hl⟩ h)
def f_X11_judged_L38 : Nat → Int32 → Int32 → Int32 →  Mm → Option (Int32 × Mm)
  | 0, _, _, _, _ => none
  | k + 1, v1, v2, v3, m => (if v3 < (gI m 110 (ix (0 : Int32))) then gd (inb v3 160) (gd (inb v3 160) (gd (inb v3 160) (bd2 (f_X11_isDone (gI m 111 (ix v3)) (gI m 112 (ix v3)) (gI m 113 (ix v3)) m) (fun r12 m11 => (if r12 = 0 then (if v2 < 0 then f_X11_judged_L38 k v1 v3 (v3 + (1 : Int32)) m11 else f_X11_judged_L38 k v1 v2 (v3 + (1 : Int32)) m11) else f_X11_judged_L38 k v1 v2 (v3 + (1 : Int32)) m11))))) else bd2 (f_X11_allLoads m) (fun r7 m6 => bd2 (f_X11_deadOnes m6) (fun r9 m8 => bd1 (f_X11_copies 118 117 (0 : Int32) (0 : Int32) m8) (fun m10 => (if v1 = 0 then some (v2, m10) else (if v1 = (1 : Int32) then some (r7, m10) else some (r9, m10)))))))
theorem t_X11_judged_L38 {X : XX} {G : GG} {ρ : Nat → Nat} {n t u w v : Nat} {x : Option Nat} {d : Nat} (hX : Ok X G ρ cX11_judged 5 RX11 d) (hd0 : 4 ≤ d) (hn : 126 ≤ n) {rE : Int32} {mE : Mm} (hF : Fin' X G ρ n (some .int) (some (.int rE)) (RT t u w v x) mE) : ∀ (k : Nat) (v1 : Int32) (v2 : Int32) (v3 : Int32) (m : Mm), f_X11_judged_L38 k v1 v2 v3 m = some (rE, mE) → J X G ρ n 5 38 [(0, .ref 78), (1, .int v1), (2, .int v2), (3, .int v3)] [] (RT t u w v x) m := by
  intro k
  induction k with
  | zero => intro _ _ _ _ h; rw [f_X11_judged_L38] at h; cases h
  | succ k ih =>
    intro v1 v2 v3 m h
    rw [f_X11_judged_L38] at h
    refine J_iload_n hX dX11_judged_38 rfl 3 rfl ?_
    refine J_aload_n hX dX11_judged_39 rfl 0 rfl ?_
    refine J_getR hX dX11_judged_40 fl_RX11_104 (ltn ltc_78 hn) lo_78 rfl (rt_78_43 _ _ _ _ _) ?_
    refine J_iconst hX (0 : Int32) dX11_judged_43 ic_0 ?_
    refine J_iaload0 hX dX11_judged_44 (ltn ltc_110 hn) lay_110 (by decide) ?_
    refine J_icmp_ge hX 85 dX11_judged_45 (by decide) h (fun c h => ?_) (fun c h => ?_)
    · refine J_aload_n hX dX11_judged_48 rfl 0 rfl ?_
      refine J_aload_n hX dX11_judged_49 rfl 0 rfl ?_
      refine J_getR hX dX11_judged_50 fl_RX11_107 (ltn ltc_78 hn) lo_78 rfl (rt_78_44 _ _ _ _ _) ?_
      refine J_iload_n hX dX11_judged_53 rfl 3 rfl ?_
      refine J_iaload hX dX11_judged_54 (ltn ltc_111 hn) lay_111 h (fun h => ?_)
      refine J_aload_n hX dX11_judged_55 rfl 0 rfl ?_
      refine J_getR hX dX11_judged_56 fl_RX11_110 (ltn ltc_78 hn) lo_78 rfl (rt_78_45 _ _ _ _ _) ?_
      refine J_iload_n hX dX11_judged_59 rfl 3 rfl ?_
      refine J_iaload hX dX11_judged_60 (ltn ltc_112 hn) lay_112 h (fun h => ?_)
      refine J_aload_n hX dX11_judged_61 rfl 0 rfl ?_
      refine J_getR hX dX11_judged_62 fl_RX11_113 (ltn ltc_78 hn) lo_78 rfl (rt_78_46 _ _ _ _ _) ?_
      refine J_iload_n hX dX11_judged_65 rfl 3 rfl ?_
      refine J_iaload hX dX11_judged_66 (ltn ltc_113 hn) lay_113 h (fun h => ?_)
      obtain ⟨r12, m11, h0, h⟩ := bd2_some h
      refine J_callVi (As := [.int (gI m 111 (ix v3)), .int (gI m 112 (ix v3)), .int (gI m 113 (ix v3))]) (st := []) hX dX11_judged_67 cw_RX11_422 (by omega) (c_X11_isDone hn  h0) (ltn ltc_78 hn) lo_78 (by decide) rfl rfl rfl (Nat.le_of_ble_eq_true rfl) ?_
      clear h0
      refine J_if_ne hX 79 dX11_judged_70 (by decide) h (fun c h => ?_) (fun c h => ?_)
      · refine J_iload_n hX dX11_judged_73 rfl 2 rfl ?_
        refine J_if_ge hX 79 dX11_judged_74 (by decide) h (fun c h => ?_) (fun c h => ?_)
        · refine J_iload_n hX dX11_judged_77 rfl 3 rfl ?_
          refine J_istore_n hX [(2, .int v3), (0, .ref 78), (1, .int v1), (3, .int v3)] dX11_judged_78 rfl (by decide) rfl ?_
          refine J_iinc hX (v3 + (1 : Int32)) [(3, .int (v3 + (1 : Int32))), (2, .int v3), (0, .ref 78), (1, .int v1)] dX11_judged_79 3 rfl (congrArg (fun z => v3 + z) ic_1) (by decide) rfl ?_
          refine J_goto hX 38 dX11_judged_82 (by decide) ?_
          refine J_sub [(0, .ref 78), (1, .int v1), (2, .int v3), (3, .int (v3 + (1 : Int32)))] [2, 3, 1, 0] rfl ?_
          exact ih v1 v3 (v3 + (1 : Int32)) m11 h
        · refine J_iinc hX (v3 + (1 : Int32)) [(3, .int (v3 + (1 : Int32))), (0, .ref 78), (1, .int v1), (2, .int v2)] dX11_judged_79 3 rfl (congrArg (fun z => v3 + z) ic_1) (by decide) rfl ?_
          refine J_goto hX 38 dX11_judged_82 (by decide) ?_
          refine J_sub [(0, .ref 78), (1, .int v1), (2, .int v2), (3, .int (v3 + (1 : Int32)))] [1, 2, 3, 0] rfl ?_
          exact ih v1 v2 (v3 + (1 : Int32)) m11 h
      · refine J_iinc hX (v3 + (1 : Int32)) [(3, .int (v3 + (1 : Int32))), (0, .ref 78), (1, .int v1), (2, .int v2)] dX11_judged_79 3 rfl (congrArg (fun z => v3 + z) ic_1) (by decide) rfl ?_
        refine J_goto hX 38 dX11_judged_82 (by decide) ?_
        refine J_sub [(0, .ref 78), (1, .int v1), (2, .int v2), (3, .int (v3 + (1 : Int32)))] [1, 2, 3, 0] rfl ?_
        exact ih v1 v2 (v3 + (1 : Int32)) m11 h
    · refine J_aload_n hX dX11_judged_85 rfl 0 rfl ?_
      obtain ⟨r7, m6, h0, h⟩ := bd2_some h
      refine J_callVi (As := []) (st := []) hX dX11_judged_86 cw_RX11_425 (by omega) (c_X11_allLoads hn  h0) (ltn ltc_78 hn) lo_78 (by decide) rfl rfl rfl (Nat.le_of_ble_eq_true rfl) ?_
      clear h0
      refine J_istore_n hX [(3, .int r7), (0, .ref 78), (1, .int v1), (2, .int v2)] dX11_judged_89 rfl (by decide) rfl ?_
      refine J_aload_n hX dX11_judged_90 rfl 1 rfl ?_
      obtain ⟨r9, m8, h0, h⟩ := bd2_some h
      refine J_callVi (As := []) (st := []) hX dX11_judged_91 cw_RX11_428 (by omega) (c_X11_deadOnes hn  h0) (ltn ltc_78 hn) lo_78 (by decide) rfl rfl rfl (Nat.le_of_ble_eq_true rfl) ?_
      clear h0
      refine J_istore hX [(4, .int r9), (3, .int r7), (0, .ref 78), (1, .int v1), (2, .int v2)] dX11_judged_94 (by decide) rfl ?_
      refine J_aload_n hX dX11_judged_96 rfl 2 rfl ?_
      refine J_getR hX dX11_judged_97 fl_RX11_128 (ltn ltc_78 hn) lo_78 rfl (rt_78_51 _ _ _ _ _) ?_
      refine J_iconst hX (0 : Int32) dX11_judged_100 ic_0 ?_
      refine J_aload_n hX dX11_judged_101 rfl 2 rfl ?_
      refine J_getR hX dX11_judged_102 fl_RX11_125 (ltn ltc_78 hn) lo_78 rfl (rt_78_50 _ _ _ _ _) ?_
      refine J_iconst hX (0 : Int32) dX11_judged_105 ic_0 ?_
      obtain ⟨m10, h0, h⟩ := bd1_some h
      refine J_callSv (As := [.ref 118, .int (0 : Int32), .ref 117, .int (0 : Int32)]) (st := []) hX dX11_judged_106 cw_RX11_418 (by omega) (c_X11_copies hn p_isIa_118 p_isIa_117 h0) rfl rfl (Nat.le_of_ble_eq_true rfl) ?_
      clear h0
      refine J_iload_n hX dX11_judged_109 rfl 3 rfl ?_
      refine J_if_ne hX 117 dX11_judged_110 (by decide) h (fun c h => ?_) (fun c h => ?_)
      · refine J_iload_n hX dX11_judged_113 rfl 4 rfl ?_
        refine J_goto hX 128 dX11_judged_114 (by decide) ?_
        exact J_ireturn hX dX11_judged_128 h hF rfl
      · refine J_iload_n hX dX11_judged_117 rfl 3 rfl ?_
        refine J_iconst hX (1 : Int32) dX11_judged_118 ic_1 ?_
        refine J_icmp_ne hX 126 dX11_judged_119 (by decide) h (fun c h => ?_) (fun c h => ?_)
        · refine J_iload_n hX dX11_judged_122 rfl 1 rfl ?_
          refine J_goto hX 128 dX11_judged_123 (by decide) ?_
          exact J_ireturn hX dX11_judged_128 h hF rfl
        · refine J_iload hX dX11_judged_126 0 rfl ?_
          exact J_ireturn hX dX11_judged_128 h hF rfl
def f_X11_judged (x1 : Int32) (m : Mm) : Option (Int32 × Mm) := stI m 78 0 (0 : Int32) (fun m1 => bd2 (f_X11_within x1 (0 : Int32) (2 : Int32) m1) (fun r3 m2 => (if r3 = 0 then some ((-2 : Int32), m2) else bd1 (f_X11_copies 117 118 (0 : Int32) (0 : Int32) m2) (fun m4 => bd1 (f_X11_fresh0 m4) (fun m5 => f_X11_judged_L38 FU x1 (-1 : Int32) (0 : Int32)  m5)))))
theorem t_X11_judged {X : XX} {G : GG} {ρ : Nat → Nat} {n t u w v : Nat} {x : Option Nat} {d : Nat} (hX : Ok X G ρ cX11_judged 5 RX11 d) (hd0 : 4 ≤ d) (hn : 126 ≤ n) {rE : Int32} {mE : Mm} (hF : Fin' X G ρ n (some .int) (some (.int rE)) (RT t u w v x) mE) {x1 : Int32} {m : Mm} (h : f_X11_judged x1 m = some (rE, mE)) : J X G ρ n 5 0 [(0, .ref 78), (1, .int x1)] [] (RT t u w v x) m := by
  unfold f_X11_judged at h
  refine J_aload_n hX dX11_judged_0 rfl 0 rfl ?_
  refine J_iconst hX (0 : Int32) dX11_judged_1 ic_0 ?_
  refine J_putI hX dX11_judged_2 pl_RX11_152 (ltn ltc_78 hn) lo_78 rfl rfl rfl h (fun m1 h => ?_)
  refine J_iload_n hX dX11_judged_5 rfl 1 rfl ?_
  refine J_iconst hX (0 : Int32) dX11_judged_6 ic_0 ?_
  refine J_iconst hX (2 : Int32) dX11_judged_7 ic_2 ?_
  obtain ⟨r3, m2, h0, h⟩ := bd2_some h
  refine J_callSi (As := [.int x1, .int (0 : Int32), .int (2 : Int32)]) (st := []) hX dX11_judged_8 cw_RX11_239 (by omega) (c_X11_within hn  h0) rfl rfl (Nat.le_of_ble_eq_true rfl) ?_
  clear h0
  refine J_if_ne hX 17 dX11_judged_11 (by decide) h (fun c h => ?_) (fun c h => ?_)
  · refine J_bipush hX (-2 : Int32) dX11_judged_14 (by decide) ?_
    exact J_ireturn hX dX11_judged_16 h hF rfl
  · refine J_aload_n hX dX11_judged_17 rfl 0 rfl ?_
    refine J_getR hX dX11_judged_18 fl_RX11_125 (ltn ltc_78 hn) lo_78 rfl (rt_78_50 _ _ _ _ _) ?_
    refine J_iconst hX (0 : Int32) dX11_judged_21 ic_0 ?_
    refine J_aload_n hX dX11_judged_22 rfl 0 rfl ?_
    refine J_getR hX dX11_judged_23 fl_RX11_128 (ltn ltc_78 hn) lo_78 rfl (rt_78_51 _ _ _ _ _) ?_
    refine J_iconst hX (0 : Int32) dX11_judged_26 ic_0 ?_
    obtain ⟨m4, h0, h⟩ := bd1_some h
    refine J_callSv (As := [.ref 117, .int (0 : Int32), .ref 118, .int (0 : Int32)]) (st := []) hX dX11_judged_27 cw_RX11_418 (by omega) (c_X11_copies hn p_isIa_117 p_isIa_118 h0) rfl rfl (Nat.le_of_ble_eq_true rfl) ?_
    clear h0
    refine J_aload_n hX dX11_judged_30 rfl 0 rfl ?_
    obtain ⟨m5, h0, h⟩ := bd1_some h
    refine J_callVv (As := []) (st := []) hX dX11_judged_31 cw_RX11_149 (by omega) (c_X11_fresh0 hn  h0) (ltn ltc_78 hn) lo_78 (by decide) rfl rfl rfl (Nat.le_of_ble_eq_true rfl) ?_
    clear h0
    refine J_iconst hX (-1 : Int32) dX11_judged_34 ic_m1 ?_
    refine J_istore_n hX [(2, .int (-1 : Int32)), (0, .ref 78), (1, .int x1)] dX11_judged_35 rfl (by decide) rfl ?_
    refine J_iconst hX (0 : Int32) dX11_judged_36 ic_0 ?_
    refine J_istore_n hX [(3, .int (0 : Int32)), (2, .int (-1 : Int32)), (0, .ref 78), (1, .int x1)] dX11_judged_37 rfl (by decide) rfl ?_
    refine J_sub [(0, .ref 78), (1, .int x1), (2, .int (-1 : Int32)), (3, .int (0 : Int32))] [2, 3, 1, 0] rfl ?_
    exact t_X11_judged_L38 hX hd0 hn hF FU x1 (-1 : Int32) (0 : Int32)  m5 h
theorem c_X11_judged {G : GG} {l : Launch} {ρ : Nat → Nat} {n t u w v : Nat} {x : Option Nat} (hn : 126 ≤ n) {x1 : Int32} {m : Mm} {rE : Int32} {mE : Mm} (h : f_X11_judged x1 m = some (rE, mE)) : CT G l yX11_judged cX11_judged 5 (some .int) 4 0 0 ρ n (RT t u w v x) [.ref 78, .int x1] m (some (.int rE)) (RT t u w v x) mE := ct_of_J (by decide) rfl (Nat.le_of_ble_eq_true rfl) (fun X hX e1 e2 e3 e4 hQ hr hl => t_X11_judged hX (Nat.le_refl _) hn ⟨by rw [hQ, e3, e4], hr, hl⟩ h)
def f_X4_shared_L14 (a : Nat) : Nat → Int32 → Int32 → Int32 →  Mm → Option (Int32 × Mm)
  | 0, _, _, _, _ => none
  | k + 1, v3, v4, v5, m => (if v5 < (gI m a 1) then gd (inb v5 40) ((if ((gI m (a + 6) (ix v5)) &&& v3) = v3 then f_X4_shared_L14 a k v3 (v4 + (1 : Int32)) (v5 + (1 : Int32)) m else f_X4_shared_L14 a k v3 v4 (v5 + (1 : Int32)) m)) else some (v4, m))
theorem t_X4_shared_L14 {X : XX} {G : GG} {ρ : Nat → Nat} {n t u w v : Nat} {x : Option Nat} {d : Nat} {a : Nat} (hX : Ok X G ρ cX4_shared 6 RX4 d) (hd0 : 0 ≤ d) (hn : 126 ≤ n) (ha : isLa a) {rE : Int32} {mE : Mm} (hF : Fin' X G ρ n (some .int) (some (.int rE)) (RT t u w v x) mE) : ∀ (k : Nat) (v3 : Int32) (v4 : Int32) (v5 : Int32) (m : Mm), f_X4_shared_L14 a k v3 v4 v5 m = some (rE, mE) → J X G ρ n 6 14 [(0, .ref a), (3, .int v3), (4, .int v4), (5, .int v5)] [] (RT t u w v x) m := by
  intro k
  induction k with
  | zero => intro _ _ _ _ h; rw [f_X4_shared_L14] at h; cases h
  | succ k ih =>
    intro v3 v4 v5 m h
    rw [f_X4_shared_L14] at h
    refine J_iload hX dX4_shared_14 3 rfl ?_
    refine J_aload_n hX dX4_shared_16 rfl 0 rfl ?_
    refine J_getI hX dX4_shared_17 fl_RX4_72 (ltn (lt_isLa_0 ha) hn) (lo_isLa_0 ha) rfl ?_
    refine J_icmp_ge hX 45 dX4_shared_20 (by decide) h (fun c h => ?_) (fun c h => ?_)
    · refine J_aload_n hX dX4_shared_23 rfl 0 rfl ?_
      refine J_getR hX dX4_shared_24 fl_RX4_27 (ltn (lt_isLa_0 ha) hn) (lo_isLa_0 ha) rfl (rt_isLa_0_8 _ _ _ _ _ ha) ?_
      refine J_iload hX dX4_shared_27 3 rfl ?_
      refine J_iaload hX dX4_shared_29 (ltn (lt_isLa_6 ha) hn) (lay_isLa_6 ha) h (fun h => ?_)
      refine J_iload_n hX dX4_shared_30 rfl 1 rfl ?_
      refine J_iand hX dX4_shared_31 ?_
      refine J_iload_n hX dX4_shared_32 rfl 1 rfl ?_
      refine J_icmp_ne hX 39 dX4_shared_33 (by decide) h (fun c h => ?_) (fun c h => ?_)
      · refine J_iinc hX (v4 + (1 : Int32)) [(4, .int (v4 + (1 : Int32))), (0, .ref a), (3, .int v3), (5, .int v5)] dX4_shared_36 2 rfl (congrArg (fun z => v4 + z) ic_1) (by decide) rfl ?_
        refine J_iinc hX (v5 + (1 : Int32)) [(5, .int (v5 + (1 : Int32))), (4, .int (v4 + (1 : Int32))), (0, .ref a), (3, .int v3)] dX4_shared_39 3 rfl (congrArg (fun z => v5 + z) ic_1) (by decide) rfl ?_
        refine J_goto hX 14 dX4_shared_42 (by decide) ?_
        refine J_sub [(0, .ref a), (3, .int v3), (4, .int (v4 + (1 : Int32))), (5, .int (v5 + (1 : Int32)))] [2, 3, 1, 0] rfl ?_
        exact ih v3 (v4 + (1 : Int32)) (v5 + (1 : Int32)) m h
      · refine J_iinc hX (v5 + (1 : Int32)) [(5, .int (v5 + (1 : Int32))), (0, .ref a), (3, .int v3), (4, .int v4)] dX4_shared_39 3 rfl (congrArg (fun z => v5 + z) ic_1) (by decide) rfl ?_
        refine J_goto hX 14 dX4_shared_42 (by decide) ?_
        refine J_sub [(0, .ref a), (3, .int v3), (4, .int v4), (5, .int (v5 + (1 : Int32)))] [1, 2, 3, 0] rfl ?_
        exact ih v3 v4 (v5 + (1 : Int32)) m h
    · refine J_iload hX dX4_shared_45 2 rfl ?_
      exact J_ireturn hX dX4_shared_47 h hF rfl
def f_X4_shared (a : Nat) (x1 : Int32) (x2 : Int32) (m : Mm) : Option (Int32 × Mm) := f_X4_shared_L14 a FU (((1 : Int32) <<< (x1 &&& 31)) ||| ((1 : Int32) <<< (x2 &&& 31))) (0 : Int32) (0 : Int32)  m
theorem t_X4_shared {X : XX} {G : GG} {ρ : Nat → Nat} {n t u w v : Nat} {x : Option Nat} {d : Nat} {a : Nat} (hX : Ok X G ρ cX4_shared 6 RX4 d) (hd0 : 0 ≤ d) (hn : 126 ≤ n) (ha : isLa a) {rE : Int32} {mE : Mm} (hF : Fin' X G ρ n (some .int) (some (.int rE)) (RT t u w v x) mE) {x1 : Int32} {x2 : Int32} {m : Mm} (h : f_X4_shared a x1 x2 m = some (rE, mE)) : J X G ρ n 6 0 [(0, .ref a), (1, .int x1), (2, .int x2)] [] (RT t u w v x) m := by
  unfold f_X4_shared at h
  refine J_iconst hX (1 : Int32) dX4_shared_0 ic_1 ?_
  refine J_iload_n hX dX4_shared_1 rfl 1 rfl ?_
  refine J_ishl hX dX4_shared_2 ?_
  refine J_iconst hX (1 : Int32) dX4_shared_3 ic_1 ?_
  refine J_iload_n hX dX4_shared_4 rfl 2 rfl ?_
  refine J_ishl hX dX4_shared_5 ?_
  refine J_ior hX dX4_shared_6 ?_
  refine J_istore_n hX [(3, .int (((1 : Int32) <<< (x1 &&& 31)) ||| ((1 : Int32) <<< (x2 &&& 31)))), (0, .ref a), (1, .int x1), (2, .int x2)] dX4_shared_7 rfl (by decide) rfl ?_
  refine J_iconst hX (0 : Int32) dX4_shared_8 ic_0 ?_
  refine J_istore hX [(4, .int (0 : Int32)), (3, .int (((1 : Int32) <<< (x1 &&& 31)) ||| ((1 : Int32) <<< (x2 &&& 31)))), (0, .ref a), (1, .int x1), (2, .int x2)] dX4_shared_9 (by decide) rfl ?_
  refine J_iconst hX (0 : Int32) dX4_shared_11 ic_0 ?_
  refine J_istore hX [(5, .int (0 : Int32)), (4, .int (0 : Int32)), (3, .int (((1 : Int32) <<< (x1 &&& 31)) ||| ((1 : Int32) <<< (x2 &&& 31)))), (0, .ref a), (1, .int x1), (2, .int x2)] dX4_shared_12 (by decide) rfl ?_
  refine J_sub [(0, .ref a), (3, .int (((1 : Int32) <<< (x1 &&& 31)) ||| ((1 : Int32) <<< (x2 &&& 31)))), (4, .int (0 : Int32)), (5, .int (0 : Int32))] [3, 2, 1, 0] rfl ?_
  exact t_X4_shared_L14 hX hd0 hn ha hF FU (((1 : Int32) <<< (x1 &&& 31)) ||| ((1 : Int32) <<< (x2 &&& 31))) (0 : Int32) (0 : Int32)  m h
theorem c_X4_shared {G : GG} {l : Launch} {ρ : Nat → Nat} {n t u w v : Nat} {x : Option Nat} (hn : 126 ≤ n) {a : Nat} (ha : isLa a) {x1 : Int32} {x2 : Int32} {m : Mm} {rE : Int32} {mE : Mm} (h : f_X4_shared a x1 x2 m = some (rE, mE)) : CT G l yX4_shared cX4_shared 6 (some .int) 0 0 0 ρ n (RT t u w v x) [.ref a, .int x1, .int x2] m (some (.int rE)) (RT t u w v x) mE := ct_of_J (by decide) rfl (Nat.le_of_ble_eq_true rfl) (fun X hX e1 e2 e3 e4 hQ hr hl => t_X4_shared hX (Nat.le_refl _) hn ha ⟨by rw [hQ, e3, e4], hr, hl⟩ h)
def f_X10_pairs (t : Nat) (u : Nat) (w : Nat) (v : Nat) (x1 : Int32) (x2 : Int32) (m : Mm) : Option (Int32 × Mm) := bd2 (f_X10_isDisk t u w v x1 m) (fun r2 m1 => (if r2 = 0 then some ((-1 : Int32), m1) else bd2 (f_X10_isDisk t u w v x2 m1) (fun r4 m3 => (if r4 = 0 then some ((-1 : Int32), m3) else (if x1 = x2 then some ((-1 : Int32), m3) else bd2 (f_X4_shared 26 x1 x2 m3) (fun r6 m5 => some (r6, m5)))))))
theorem t_X10_pairs {X : XX} {G : GG} {ρ : Nat → Nat} {n : Nat} {x : Option Nat} {d : Nat} {t : Nat} {u : Nat} {w : Nat} {v : Nat} (hX : Ok X G ρ cX10_pairs 3 RX10 d) (hd0 : 1 ≤ d) (hn : 126 ≤ n) (ht : isTo t) (hu : isTo u) (hw : isWk w) (hv : isWk v) {rE : Int32} {mE : Mm} (hF : Fin' X G ρ n (some .int) (some (.int rE)) (RT t u w v x) mE) {x1 : Int32} {x2 : Int32} {m : Mm} (h : f_X10_pairs t u w v x1 x2 m = some (rE, mE)) : J X G ρ n 3 0 [(0, .ref 0), (1, .int x1), (2, .int x2)] [] (RT t u w v x) m := by
  unfold f_X10_pairs at h
  refine J_aload_n hX dX10_pairs_0 rfl 0 rfl ?_
  refine J_iload_n hX dX10_pairs_1 rfl 1 rfl ?_
  obtain ⟨r2, m1, h0, h⟩ := bd2_some h
  refine J_callVi (As := [.int x1]) (st := []) hX dX10_pairs_2 cw_RX10_168 (by omega) (c_X10_isDisk hn ht hu hw hv h0) (ltn ltc_0 hn) lo_0 (by decide) rfl rfl rfl (Nat.le_of_ble_eq_true rfl) ?_
  clear h0
  refine J_if_eq hX 33 dX10_pairs_5 (by decide) h (fun c h => ?_) (fun c h => ?_)
  · refine J_iconst hX (-1 : Int32) dX10_pairs_33 ic_m1 ?_
    exact J_ireturn hX dX10_pairs_34 h hF rfl
  · refine J_aload_n hX dX10_pairs_8 rfl 0 rfl ?_
    refine J_iload_n hX dX10_pairs_9 rfl 2 rfl ?_
    obtain ⟨r4, m3, h0, h⟩ := bd2_some h
    refine J_callVi (As := [.int x2]) (st := []) hX dX10_pairs_10 cw_RX10_168 (by omega) (c_X10_isDisk hn ht hu hw hv h0) (ltn ltc_0 hn) lo_0 (by decide) rfl rfl rfl (Nat.le_of_ble_eq_true rfl) ?_
    clear h0
    refine J_if_eq hX 33 dX10_pairs_13 (by decide) h (fun c h => ?_) (fun c h => ?_)
    · refine J_iconst hX (-1 : Int32) dX10_pairs_33 ic_m1 ?_
      exact J_ireturn hX dX10_pairs_34 h hF rfl
    · refine J_iload_n hX dX10_pairs_16 rfl 1 rfl ?_
      refine J_iload_n hX dX10_pairs_17 rfl 2 rfl ?_
      refine J_icmp_eq hX 33 dX10_pairs_18 (by decide) h (fun c h => ?_) (fun c h => ?_)
      · refine J_iconst hX (-1 : Int32) dX10_pairs_33 ic_m1 ?_
        exact J_ireturn hX dX10_pairs_34 h hF rfl
      · refine J_aload_n hX dX10_pairs_21 rfl 0 rfl ?_
        refine J_getR hX dX10_pairs_22 fl_RX10_48 (ltn ltc_0 hn) lo_0 rfl (rt_0_6 _ _ _ _ _) ?_
        refine J_iload_n hX dX10_pairs_25 rfl 1 rfl ?_
        refine J_iload_n hX dX10_pairs_26 rfl 2 rfl ?_
        obtain ⟨r6, m5, h0, h⟩ := bd2_some h
        refine J_callVi (As := [.int x1, .int x2]) (st := []) hX dX10_pairs_27 cw_RX10_230 (by omega) (c_X4_shared hn p_isLa_26 h0) (ltn ltc_26 hn) lo_26 (by decide) rfl rfl rfl (Nat.le_of_ble_eq_true rfl) ?_
        clear h0
        refine J_goto hX 34 dX10_pairs_30 (by decide) ?_
        exact J_ireturn hX dX10_pairs_34 h hF rfl
theorem c_X10_pairs {G : GG} {l : Launch} {ρ : Nat → Nat} {n : Nat} {x : Option Nat} (hn : 126 ≤ n) {t : Nat} {u : Nat} {w : Nat} {v : Nat} (ht : isTo t) (hu : isTo u) (hw : isWk w) (hv : isWk v) {x1 : Int32} {x2 : Int32} {m : Mm} {rE : Int32} {mE : Mm} (h : f_X10_pairs t u w v x1 x2 m = some (rE, mE)) : CT G l yX10_pairs cX10_pairs 3 (some .int) 1 0 0 ρ n (RT t u w v x) [.ref 0, .int x1, .int x2] m (some (.int rE)) (RT t u w v x) mE := ct_of_J (by decide) rfl (Nat.le_of_ble_eq_true rfl) (fun X hX e1 e2 e3 e4 hQ hr hl => t_X10_pairs hX (Nat.le_refl _) hn ht hu hw hv ⟨by rw [hQ, e3, e4], hr, hl⟩ h)
def f_X11_pairsOf_L5 : Nat → Int32 → Int32 → Int32 → Int32 →  Mm → Option (Int32 × Mm)
  | 0, _, _, _, _, _ => none
  | k + 1, v1, v2, v3, v4, m => (if v4 < (gI m 99 (ix (0 : Int32))) then bd2 (f_X11_unitOn v4 v1 m) (fun r2 m1 => (if r2 < 0 then f_X11_pairsOf_L5 k v1 v2 (v3 + (0 : Int32)) (v4 + (1 : Int32)) m1 else bd2 (f_X11_unitOn v4 v2 m1) (fun r4 m3 => (if r4 < 0 then f_X11_pairsOf_L5 k v1 v2 (v3 + (0 : Int32)) (v4 + (1 : Int32)) m3 else f_X11_pairsOf_L5 k v1 v2 (v3 + (1 : Int32)) (v4 + (1 : Int32)) m3)))) else some (v3, m))
theorem t_X11_pairsOf_L5 {X : XX} {G : GG} {ρ : Nat → Nat} {n t u w v : Nat} {x : Option Nat} {d : Nat} (hX : Ok X G ρ cX11_pairsOf 5 RX11 d) (hd0 : 1 ≤ d) (hn : 126 ≤ n) {rE : Int32} {mE : Mm} (hF : Fin' X G ρ n (some .int) (some (.int rE)) (RT t u w v x) mE) : ∀ (k : Nat) (v1 : Int32) (v2 : Int32) (v3 : Int32) (v4 : Int32) (m : Mm), f_X11_pairsOf_L5 k v1 v2 v3 v4 m = some (rE, mE) → J X G ρ n 5 5 [(0, .ref 78), (1, .int v1), (2, .int v2), (3, .int v3), (4, .int v4)] [] (RT t u w v x) m := by
  intro k
  induction k with
  | zero => intro _ _ _ _ _ h; rw [f_X11_pairsOf_L5] at h; cases h
  | succ k ih =>
    intro v1 v2 v3 v4 m h
    rw [f_X11_pairsOf_L5] at h
    refine J_iload hX dX11_pairsOf_5 4 rfl ?_
    refine J_aload_n hX dX11_pairsOf_7 rfl 0 rfl ?_
    refine J_getR hX dX11_pairsOf_8 fl_RX11_71 (ltn ltc_78 hn) lo_78 rfl (rt_78_32 _ _ _ _ _) ?_
    refine J_iconst hX (0 : Int32) dX11_pairsOf_11 ic_0 ?_
    refine J_iaload0 hX dX11_pairsOf_12 (ltn ltc_99 hn) lay_99 (by decide) ?_
    refine J_icmp_ge hX 50 dX11_pairsOf_13 (by decide) h (fun c h => ?_) (fun c h => ?_)
    · refine J_iload_n hX dX11_pairsOf_16 rfl 3 rfl ?_
      refine J_aload_n hX dX11_pairsOf_17 rfl 0 rfl ?_
      refine J_iload hX dX11_pairsOf_18 4 rfl ?_
      refine J_iload_n hX dX11_pairsOf_20 rfl 1 rfl ?_
      obtain ⟨r2, m1, h0, h⟩ := bd2_some h
      refine J_callVi (As := [.int v4, .int v1]) (st := [.int v3]) hX dX11_pairsOf_21 cw_RX11_309 (by omega) (c_X11_unitOn hn  h0) (ltn ltc_78 hn) lo_78 (by decide) rfl rfl rfl (Nat.le_of_ble_eq_true rfl) ?_
      clear h0
      refine J_if_lt hX 41 dX11_pairsOf_24 (by decide) h (fun c h => ?_) (fun c h => ?_)
      · refine J_iconst hX (0 : Int32) dX11_pairsOf_41 ic_0 ?_
        refine J_iadd hX dX11_pairsOf_42 ?_
        refine J_istore_n hX [(3, .int (v3 + (0 : Int32))), (0, .ref 78), (1, .int v1), (2, .int v2), (4, .int v4)] dX11_pairsOf_43 rfl (by decide) rfl ?_
        refine J_iinc hX (v4 + (1 : Int32)) [(4, .int (v4 + (1 : Int32))), (3, .int (v3 + (0 : Int32))), (0, .ref 78), (1, .int v1), (2, .int v2)] dX11_pairsOf_44 4 rfl (congrArg (fun z => v4 + z) ic_1) (by decide) rfl ?_
        refine J_goto hX 5 dX11_pairsOf_47 (by decide) ?_
        refine J_sub [(0, .ref 78), (1, .int v1), (2, .int v2), (3, .int (v3 + (0 : Int32))), (4, .int (v4 + (1 : Int32)))] [2, 3, 4, 1, 0] rfl ?_
        exact ih v1 v2 (v3 + (0 : Int32)) (v4 + (1 : Int32)) m1 h
      · refine J_aload_n hX dX11_pairsOf_27 rfl 0 rfl ?_
        refine J_iload hX dX11_pairsOf_28 4 rfl ?_
        refine J_iload_n hX dX11_pairsOf_30 rfl 2 rfl ?_
        obtain ⟨r4, m3, h0, h⟩ := bd2_some h
        refine J_callVi (As := [.int v4, .int v2]) (st := [.int v3]) hX dX11_pairsOf_31 cw_RX11_309 (by omega) (c_X11_unitOn hn  h0) (ltn ltc_78 hn) lo_78 (by decide) rfl rfl rfl (Nat.le_of_ble_eq_true rfl) ?_
        clear h0
        refine J_if_lt hX 41 dX11_pairsOf_34 (by decide) h (fun c h => ?_) (fun c h => ?_)
        · refine J_iconst hX (0 : Int32) dX11_pairsOf_41 ic_0 ?_
          refine J_iadd hX dX11_pairsOf_42 ?_
          refine J_istore_n hX [(3, .int (v3 + (0 : Int32))), (0, .ref 78), (1, .int v1), (2, .int v2), (4, .int v4)] dX11_pairsOf_43 rfl (by decide) rfl ?_
          refine J_iinc hX (v4 + (1 : Int32)) [(4, .int (v4 + (1 : Int32))), (3, .int (v3 + (0 : Int32))), (0, .ref 78), (1, .int v1), (2, .int v2)] dX11_pairsOf_44 4 rfl (congrArg (fun z => v4 + z) ic_1) (by decide) rfl ?_
          refine J_goto hX 5 dX11_pairsOf_47 (by decide) ?_
          refine J_sub [(0, .ref 78), (1, .int v1), (2, .int v2), (3, .int (v3 + (0 : Int32))), (4, .int (v4 + (1 : Int32)))] [2, 3, 4, 1, 0] rfl ?_
          exact ih v1 v2 (v3 + (0 : Int32)) (v4 + (1 : Int32)) m3 h
        · refine J_iconst hX (1 : Int32) dX11_pairsOf_37 ic_1 ?_
          refine J_goto hX 42 dX11_pairsOf_38 (by decide) ?_
          refine J_iadd hX dX11_pairsOf_42 ?_
          refine J_istore_n hX [(3, .int (v3 + (1 : Int32))), (0, .ref 78), (1, .int v1), (2, .int v2), (4, .int v4)] dX11_pairsOf_43 rfl (by decide) rfl ?_
          refine J_iinc hX (v4 + (1 : Int32)) [(4, .int (v4 + (1 : Int32))), (3, .int (v3 + (1 : Int32))), (0, .ref 78), (1, .int v1), (2, .int v2)] dX11_pairsOf_44 4 rfl (congrArg (fun z => v4 + z) ic_1) (by decide) rfl ?_
          refine J_goto hX 5 dX11_pairsOf_47 (by decide) ?_
          refine J_sub [(0, .ref 78), (1, .int v1), (2, .int v2), (3, .int (v3 + (1 : Int32))), (4, .int (v4 + (1 : Int32)))] [2, 3, 4, 1, 0] rfl ?_
          exact ih v1 v2 (v3 + (1 : Int32)) (v4 + (1 : Int32)) m3 h
    · refine J_iload_n hX dX11_pairsOf_50 rfl 3 rfl ?_
      exact J_ireturn hX dX11_pairsOf_51 h hF rfl
def f_X11_pairsOf (x1 : Int32) (x2 : Int32) (m : Mm) : Option (Int32 × Mm) := f_X11_pairsOf_L5 FU x1 x2 (0 : Int32) (0 : Int32)  m
theorem t_X11_pairsOf {X : XX} {G : GG} {ρ : Nat → Nat} {n t u w v : Nat} {x : Option Nat} {d : Nat} (hX : Ok X G ρ cX11_pairsOf 5 RX11 d) (hd0 : 1 ≤ d) (hn : 126 ≤ n) {rE : Int32} {mE : Mm} (hF : Fin' X G ρ n (some .int) (some (.int rE)) (RT t u w v x) mE) {x1 : Int32} {x2 : Int32} {m : Mm} (h : f_X11_pairsOf x1 x2 m = some (rE, mE)) : J X G ρ n 5 0 [(0, .ref 78), (1, .int x1), (2, .int x2)] [] (RT t u w v x) m := by
  unfold f_X11_pairsOf at h
  refine J_iconst hX (0 : Int32) dX11_pairsOf_0 ic_0 ?_
  refine J_istore_n hX [(3, .int (0 : Int32)), (0, .ref 78), (1, .int x1), (2, .int x2)] dX11_pairsOf_1 rfl (by decide) rfl ?_
  refine J_iconst hX (0 : Int32) dX11_pairsOf_2 ic_0 ?_
  refine J_istore hX [(4, .int (0 : Int32)), (3, .int (0 : Int32)), (0, .ref 78), (1, .int x1), (2, .int x2)] dX11_pairsOf_3 (by decide) rfl ?_
  refine J_sub [(0, .ref 78), (1, .int x1), (2, .int x2), (3, .int (0 : Int32)), (4, .int (0 : Int32))] [2, 3, 4, 1, 0] rfl ?_
  exact t_X11_pairsOf_L5 hX hd0 hn hF FU x1 x2 (0 : Int32) (0 : Int32)  m h
theorem c_X11_pairsOf {G : GG} {l : Launch} {ρ : Nat → Nat} {n t u w v : Nat} {x : Option Nat} (hn : 126 ≤ n) {x1 : Int32} {x2 : Int32} {m : Mm} {rE : Int32} {mE : Mm} (h : f_X11_pairsOf x1 x2 m = some (rE, mE)) : CT G l yX11_pairsOf cX11_pairsOf 5 (some .int) 1 0 0 ρ n (RT t u w v x) [.ref 78, .int x1, .int x2] m (some (.int rE)) (RT t u w v x) mE := ct_of_J (by decide) rfl (Nat.le_of_ble_eq_true rfl) (fun X hX e1 e2 e3 e4 hQ hr hl => t_X11_pairsOf hX (Nat.le_refl _) hn ⟨by rw [hQ, e3, e4], hr, hl⟩ h)
def f_X11_pairs (x1 : Int32) (x2 : Int32) (m : Mm) : Option (Int32 × Mm) := stI m 78 0 (0 : Int32) (fun m1 => bd2 (f_X11_isDisk x1 m1) (fun r3 m2 => (if r3 = 0 then some ((-1 : Int32), m2) else bd2 (f_X11_isDisk x2 m2) (fun r5 m4 => (if r5 = 0 then some ((-1 : Int32), m4) else (if x1 = x2 then some ((-1 : Int32), m4) else bd2 (f_X11_pairsOf x1 x2 m4) (fun r7 m6 => some (r7, m6))))))))
theorem t_X11_pairs {X : XX} {G : GG} {ρ : Nat → Nat} {n t u w v : Nat} {x : Option Nat} {d : Nat} (hX : Ok X G ρ cX11_pairs 3 RX11 d) (hd0 : 2 ≤ d) (hn : 126 ≤ n) {rE : Int32} {mE : Mm} (hF : Fin' X G ρ n (some .int) (some (.int rE)) (RT t u w v x) mE) {x1 : Int32} {x2 : Int32} {m : Mm} (h : f_X11_pairs x1 x2 m = some (rE, mE)) : J X G ρ n 3 0 [(0, .ref 78), (1, .int x1), (2, .int x2)] [] (RT t u w v x) m := by
  unfold f_X11_pairs at h
  refine J_aload_n hX dX11_pairs_0 rfl 0 rfl ?_
  refine J_iconst hX (0 : Int32) dX11_pairs_1 ic_0 ?_
  refine J_putI hX dX11_pairs_2 pl_RX11_152 (ltn ltc_78 hn) lo_78 rfl rfl rfl h (fun m1 h => ?_)
  refine J_aload_n hX dX11_pairs_5 rfl 0 rfl ?_
  refine J_iload_n hX dX11_pairs_6 rfl 1 rfl ?_
  obtain ⟨r3, m2, h0, h⟩ := bd2_some h
  refine J_callVi (As := [.int x1]) (st := []) hX dX11_pairs_7 cw_RX11_385 (by omega) (c_X11_isDisk hn  h0) (ltn ltc_78 hn) lo_78 (by decide) rfl rfl rfl (Nat.le_of_ble_eq_true rfl) ?_
  clear h0
  refine J_if_eq hX 35 dX11_pairs_10 (by decide) h (fun c h => ?_) (fun c h => ?_)
  · refine J_iconst hX (-1 : Int32) dX11_pairs_35 ic_m1 ?_
    exact J_ireturn hX dX11_pairs_36 h hF rfl
  · refine J_aload_n hX dX11_pairs_13 rfl 0 rfl ?_
    refine J_iload_n hX dX11_pairs_14 rfl 2 rfl ?_
    obtain ⟨r5, m4, h0, h⟩ := bd2_some h
    refine J_callVi (As := [.int x2]) (st := []) hX dX11_pairs_15 cw_RX11_385 (by omega) (c_X11_isDisk hn  h0) (ltn ltc_78 hn) lo_78 (by decide) rfl rfl rfl (Nat.le_of_ble_eq_true rfl) ?_
    clear h0
    refine J_if_eq hX 35 dX11_pairs_18 (by decide) h (fun c h => ?_) (fun c h => ?_)
    · refine J_iconst hX (-1 : Int32) dX11_pairs_35 ic_m1 ?_
      exact J_ireturn hX dX11_pairs_36 h hF rfl
    · refine J_iload_n hX dX11_pairs_21 rfl 1 rfl ?_
      refine J_iload_n hX dX11_pairs_22 rfl 2 rfl ?_
      refine J_icmp_eq hX 35 dX11_pairs_23 (by decide) h (fun c h => ?_) (fun c h => ?_)
      · refine J_iconst hX (-1 : Int32) dX11_pairs_35 ic_m1 ?_
        exact J_ireturn hX dX11_pairs_36 h hF rfl
      · refine J_aload_n hX dX11_pairs_26 rfl 0 rfl ?_
        refine J_iload_n hX dX11_pairs_27 rfl 1 rfl ?_
        refine J_iload_n hX dX11_pairs_28 rfl 2 rfl ?_
        obtain ⟨r7, m6, h0, h⟩ := bd2_some h
        refine J_callVi (As := [.int x1, .int x2]) (st := []) hX dX11_pairs_29 cw_RX11_431 (by omega) (c_X11_pairsOf hn  h0) (ltn ltc_78 hn) lo_78 (by decide) rfl rfl rfl (Nat.le_of_ble_eq_true rfl) ?_
        clear h0
        refine J_goto hX 36 dX11_pairs_32 (by decide) ?_
        exact J_ireturn hX dX11_pairs_36 h hF rfl
theorem c_X11_pairs {G : GG} {l : Launch} {ρ : Nat → Nat} {n t u w v : Nat} {x : Option Nat} (hn : 126 ≤ n) {x1 : Int32} {x2 : Int32} {m : Mm} {rE : Int32} {mE : Mm} (h : f_X11_pairs x1 x2 m = some (rE, mE)) : CT G l yX11_pairs cX11_pairs 3 (some .int) 2 0 0 ρ n (RT t u w v x) [.ref 78, .int x1, .int x2] m (some (.int rE)) (RT t u w v x) mE := ct_of_J (by decide) rfl (Nat.le_of_ble_eq_true rfl) (fun X hX e1 e2 e3 e4 hQ hr hl => t_X11_pairs hX (Nat.le_refl _) hn ⟨by rw [hQ, e3, e4], hr, hl⟩ h)
def f_X4_sharedByAny_L31 (a : Nat) (v1 : Int32) (v2 : Int32) (K : Mm → Option (Int32 × Mm)) : Nat → Int32 → Mm → Option (Int32 × Mm)
  | 0, _, _ => none
  | k + 1, v3, m => (if v3 < (gI m a 0) then bd2 (f_X4_shared a v2 v3 m) (fun r4 m3 => (if r4 = v1 then f_X4_sharedByAny_L31 a v1 v2 K k (v3 + (1 : Int32)) m3 else some ((-1 : Int32), m3))) else K  m)
theorem t_X4_sharedByAny_L31 {X : XX} {G : GG} {ρ : Nat → Nat} {n t u w v : Nat} {x : Option Nat} {d : Nat} {a : Nat} (hX : Ok X G ρ cX4_sharedByAny 4 RX4 d) (hd0 : 1 ≤ d) (hn : 126 ≤ n) (ha : isLa a) {rE : Int32} {mE : Mm} (hF : Fin' X G ρ n (some .int) (some (.int rE)) (RT t u w v x) mE) {v1 : Int32} {v2 : Int32} {K : Mm → Option (Int32 × Mm)} (hK : ∀ (m : Mm), K m = some (rE, mE) → J X G ρ n 4 57 [(0, .ref a), (1, .int v1), (2, .int v2)] [] (RT t u w v x) m) : ∀ (k : Nat) (v3 : Int32) (m : Mm), f_X4_sharedByAny_L31 a v1 v2 K k v3 m = some (rE, mE) → J X G ρ n 4 31 [(0, .ref a), (1, .int v1), (2, .int v2), (3, .int v3)] [] (RT t u w v x) m := by
  intro k
  induction k with
  | zero => intro _ _ h; rw [f_X4_sharedByAny_L31] at h; cases h
  | succ k ih =>
    intro v3 m h
    rw [f_X4_sharedByAny_L31] at h
    refine J_iload_n hX dX4_sharedByAny_31 rfl 3 rfl ?_
    refine J_aload_n hX dX4_sharedByAny_32 rfl 0 rfl ?_
    refine J_getI hX dX4_sharedByAny_33 fl_RX4_78 (ltn (lt_isLa_0 ha) hn) (lo_isLa_0 ha) rfl ?_
    refine J_icmp_ge hX 57 dX4_sharedByAny_36 (by decide) h (fun c h => ?_) (fun c h => ?_)
    · refine J_aload_n hX dX4_sharedByAny_39 rfl 0 rfl ?_
      refine J_iload_n hX dX4_sharedByAny_40 rfl 2 rfl ?_
      refine J_iload_n hX dX4_sharedByAny_41 rfl 3 rfl ?_
      obtain ⟨r4, m3, h0, h⟩ := bd2_some h
      refine J_callVi (As := [.int v2, .int v3]) (st := []) hX dX4_sharedByAny_42 cw_RX4_101 (by omega) (c_X4_shared hn ha h0) (ltn (lt_isLa_0 ha) hn) (lo_isLa_0 ha) (by decide) rfl rfl rfl (Nat.le_of_ble_eq_true rfl) ?_
      clear h0
      refine J_iload_n hX dX4_sharedByAny_45 rfl 1 rfl ?_
      refine J_icmp_eq hX 51 dX4_sharedByAny_46 (by decide) h (fun c h => ?_) (fun c h => ?_)
      · refine J_iinc hX (v3 + (1 : Int32)) [(3, .int (v3 + (1 : Int32))), (0, .ref a), (1, .int v1), (2, .int v2)] dX4_sharedByAny_51 3 rfl (congrArg (fun z => v3 + z) ic_1) (by decide) rfl ?_
        refine J_goto hX 31 dX4_sharedByAny_54 (by decide) ?_
        refine J_sub [(0, .ref a), (1, .int v1), (2, .int v2), (3, .int (v3 + (1 : Int32)))] [1, 2, 3, 0] rfl ?_
        exact ih (v3 + (1 : Int32)) m3 h
      · refine J_iconst hX (-1 : Int32) dX4_sharedByAny_49 ic_m1 ?_
        exact J_ireturn hX dX4_sharedByAny_50 h hF rfl
    · refine J_sub [(0, .ref a), (1, .int v1), (2, .int v2)] [0, 1, 2] rfl ?_
      exact hK  m h
def f_X4_sharedByAny_L19 (a : Nat) : Nat → Int32 → Int32 →  Mm → Option (Int32 × Mm)
  | 0, _, _, _ => none
  | k + 1, v1, v2, m => (if v2 < (gI m a 0) then f_X4_sharedByAny_L31 a v1 v2 (fun m5 => f_X4_sharedByAny_L19 a k v1 (v2 + (1 : Int32)) m5) FU (v2 + (1 : Int32)) m else some (v1, m))
theorem t_X4_sharedByAny_L19 {X : XX} {G : GG} {ρ : Nat → Nat} {n t u w v : Nat} {x : Option Nat} {d : Nat} {a : Nat} (hX : Ok X G ρ cX4_sharedByAny 4 RX4 d) (hd0 : 1 ≤ d) (hn : 126 ≤ n) (ha : isLa a) {rE : Int32} {mE : Mm} (hF : Fin' X G ρ n (some .int) (some (.int rE)) (RT t u w v x) mE) : ∀ (k : Nat) (v1 : Int32) (v2 : Int32) (m : Mm), f_X4_sharedByAny_L19 a k v1 v2 m = some (rE, mE) → J X G ρ n 4 19 [(0, .ref a), (1, .int v1), (2, .int v2)] [] (RT t u w v x) m := by
  intro k
  induction k with
  | zero => intro _ _ _ h; rw [f_X4_sharedByAny_L19] at h; cases h
  | succ k ih =>
    intro v1 v2 m h
    rw [f_X4_sharedByAny_L19] at h
    refine J_iload_n hX dX4_sharedByAny_19 rfl 2 rfl ?_
    refine J_aload_n hX dX4_sharedByAny_20 rfl 0 rfl ?_
    refine J_getI hX dX4_sharedByAny_21 fl_RX4_78 (ltn (lt_isLa_0 ha) hn) (lo_isLa_0 ha) rfl ?_
    refine J_icmp_ge hX 63 dX4_sharedByAny_24 (by decide) h (fun c h => ?_) (fun c h => ?_)
    · refine J_iload_n hX dX4_sharedByAny_27 rfl 2 rfl ?_
      refine J_iconst hX (1 : Int32) dX4_sharedByAny_28 ic_1 ?_
      refine J_iadd hX dX4_sharedByAny_29 ?_
      refine J_istore_n hX [(3, .int (v2 + (1 : Int32))), (0, .ref a), (1, .int v1), (2, .int v2)] dX4_sharedByAny_30 rfl (by decide) rfl ?_
      refine J_sub [(0, .ref a), (1, .int v1), (2, .int v2), (3, .int (v2 + (1 : Int32)))] [1, 2, 3, 0] rfl ?_
      refine t_X4_sharedByAny_L31 hX hd0 hn ha hF (fun m5 h => ?_) FU (v2 + (1 : Int32)) m h
      refine J_iinc hX (v2 + (1 : Int32)) [(2, .int (v2 + (1 : Int32))), (0, .ref a), (1, .int v1)] dX4_sharedByAny_57 2 rfl (congrArg (fun z => v2 + z) ic_1) (by decide) rfl ?_
      refine J_goto hX 19 dX4_sharedByAny_60 (by decide) ?_
      refine J_sub [(0, .ref a), (1, .int v1), (2, .int (v2 + (1 : Int32)))] [1, 2, 0] rfl ?_
      exact ih v1 (v2 + (1 : Int32)) m5 h
    · refine J_iload_n hX dX4_sharedByAny_63 rfl 1 rfl ?_
      exact J_ireturn hX dX4_sharedByAny_64 h hF rfl
def f_X4_sharedByAny (a : Nat) (m : Mm) : Option (Int32 × Mm) := (if (gI m a 0) < (2 : Int32) then some ((-1 : Int32), m) else bd2 (f_X4_shared a (0 : Int32) (1 : Int32) m) (fun r2 m1 => f_X4_sharedByAny_L19 a FU r2 (0 : Int32)  m1))
theorem t_X4_sharedByAny {X : XX} {G : GG} {ρ : Nat → Nat} {n t u w v : Nat} {x : Option Nat} {d : Nat} {a : Nat} (hX : Ok X G ρ cX4_sharedByAny 4 RX4 d) (hd0 : 1 ≤ d) (hn : 126 ≤ n) (ha : isLa a) {rE : Int32} {mE : Mm} (hF : Fin' X G ρ n (some .int) (some (.int rE)) (RT t u w v x) mE) {m : Mm} (h : f_X4_sharedByAny a m = some (rE, mE)) : J X G ρ n 4 0 [(0, .ref a)] [] (RT t u w v x) m := by
  unfold f_X4_sharedByAny at h
  refine J_aload_n hX dX4_sharedByAny_0 rfl 0 rfl ?_
  refine J_getI hX dX4_sharedByAny_1 fl_RX4_78 (ltn (lt_isLa_0 ha) hn) (lo_isLa_0 ha) rfl ?_
  refine J_iconst hX (2 : Int32) dX4_sharedByAny_4 ic_2 ?_
  refine J_icmp_ge hX 10 dX4_sharedByAny_5 (by decide) h (fun c h => ?_) (fun c h => ?_)
  · refine J_iconst hX (-1 : Int32) dX4_sharedByAny_8 ic_m1 ?_
    exact J_ireturn hX dX4_sharedByAny_9 h hF rfl
  · refine J_aload_n hX dX4_sharedByAny_10 rfl 0 rfl ?_
    refine J_iconst hX (0 : Int32) dX4_sharedByAny_11 ic_0 ?_
    refine J_iconst hX (1 : Int32) dX4_sharedByAny_12 ic_1 ?_
    obtain ⟨r2, m1, h0, h⟩ := bd2_some h
    refine J_callVi (As := [.int (0 : Int32), .int (1 : Int32)]) (st := []) hX dX4_sharedByAny_13 cw_RX4_101 (by omega) (c_X4_shared hn ha h0) (ltn (lt_isLa_0 ha) hn) (lo_isLa_0 ha) (by decide) rfl rfl rfl (Nat.le_of_ble_eq_true rfl) ?_
    clear h0
    refine J_istore_n hX [(1, .int r2), (0, .ref a)] dX4_sharedByAny_16 rfl (by decide) rfl ?_
    refine J_iconst hX (0 : Int32) dX4_sharedByAny_17 ic_0 ?_
    refine J_istore_n hX [(2, .int (0 : Int32)), (1, .int r2), (0, .ref a)] dX4_sharedByAny_18 rfl (by decide) rfl ?_
    refine J_sub [(0, .ref a), (1, .int r2), (2, .int (0 : Int32))] [2, 1, 0] rfl ?_
    exact t_X4_sharedByAny_L19 hX hd0 hn ha hF FU r2 (0 : Int32)  m1 h
theorem c_X4_sharedByAny {G : GG} {l : Launch} {ρ : Nat → Nat} {n t u w v : Nat} {x : Option Nat} (hn : 126 ≤ n) {a : Nat} (ha : isLa a) {m : Mm} {rE : Int32} {mE : Mm} (h : f_X4_sharedByAny a m = some (rE, mE)) : CT G l yX4_sharedByAny cX4_sharedByAny 4 (some .int) 1 0 0 ρ n (RT t u w v x) [.ref a] m (some (.int rE)) (RT t u w v x) mE := ct_of_J (by decide) rfl (Nat.le_of_ble_eq_true rfl) (fun X hX e1 e2 e3 e4 hQ hr hl => t_X4_sharedByAny hX (Nat.le_refl _) hn ha ⟨by rw [hQ, e3, e4], hr, hl⟩ h)
def f_X10_even (t : Nat) (u : Nat) (w : Nat) (v : Nat) (m : Mm) : Option (Int32 × Mm) := bd2 (f_X4_sharedByAny 26 m) (fun r2 m1 => some (r2, m1))
theorem t_X10_even {X : XX} {G : GG} {ρ : Nat → Nat} {n : Nat} {x : Option Nat} {d : Nat} {t : Nat} {u : Nat} {w : Nat} {v : Nat} (hX : Ok X G ρ cX10_even 1 RX10 d) (hd0 : 2 ≤ d) (hn : 126 ≤ n) (ht : isTo t) (hu : isTo u) (hw : isWk w) (hv : isWk v) {rE : Int32} {mE : Mm} (hF : Fin' X G ρ n (some .int) (some (.int rE)) (RT t u w v x) mE) {m : Mm} (h : f_X10_even t u w v m = some (rE, mE)) : J X G ρ n 1 0 [(0, .ref 0)] [] (RT t u w v x) m := by
  unfold f_X10_even at h
  refine J_aload_n hX dX10_even_0 rfl 0 rfl ?_
  refine J_getR hX dX10_even_1 fl_RX10_48 (ltn ltc_0 hn) lo_0 rfl (rt_0_6 _ _ _ _ _) ?_
  obtain ⟨r2, m1, h0, h⟩ := bd2_some h
  refine J_callVi (As := []) (st := []) hX dX10_even_4 cw_RX10_233 (by omega) (c_X4_sharedByAny hn p_isLa_26 h0) (ltn ltc_26 hn) lo_26 (by decide) rfl rfl rfl (Nat.le_of_ble_eq_true rfl) ?_
  clear h0
  exact J_ireturn hX dX10_even_7 h hF rfl
theorem c_X10_even {G : GG} {l : Launch} {ρ : Nat → Nat} {n : Nat} {x : Option Nat} (hn : 126 ≤ n) {t : Nat} {u : Nat} {w : Nat} {v : Nat} (ht : isTo t) (hu : isTo u) (hw : isWk w) (hv : isWk v) {m : Mm} {rE : Int32} {mE : Mm} (h : f_X10_even t u w v m = some (rE, mE)) : CT G l yX10_even cX10_even 1 (some .int) 2 0 0 ρ n (RT t u w v x) [.ref 0] m (some (.int rE)) (RT t u w v x) mE := ct_of_J (by decide) rfl (Nat.le_of_ble_eq_true rfl) (fun X hX e1 e2 e3 e4 hQ hr hl => t_X10_even hX (Nat.le_refl _) hn ht hu hw hv ⟨by rw [hQ, e3, e4], hr, hl⟩ h)
def f_X11_even_L38 (v1 : Int32) (v2 : Int32) (K : Mm → Option (Int32 × Mm)) : Nat → Int32 → Mm → Option (Int32 × Mm)
  | 0, _, _ => none
  | k + 1, v3, m => (if v3 < v2 then bd2 (f_X11_pairsOf v2 v3 m) (fun r5 m4 => (if r5 = v1 then f_X11_even_L38 v1 v2 K k (v3 + (1 : Int32)) m4 else some ((-1 : Int32), m4))) else K  m)
theorem t_X11_even_L38 {X : XX} {G : GG} {ρ : Nat → Nat} {n t u w v : Nat} {x : Option Nat} {d : Nat} (hX : Ok X G ρ cX11_even 4 RX11 d) (hd0 : 2 ≤ d) (hn : 126 ≤ n) {rE : Int32} {mE : Mm} (hF : Fin' X G ρ n (some .int) (some (.int rE)) (RT t u w v x) mE) {v1 : Int32} {v2 : Int32} {K : Mm → Option (Int32 × Mm)} (hK : ∀ (m : Mm), K m = some (rE, mE) → J X G ρ n 4 61 [(0, .ref 78), (1, .int v1), (2, .int v2)] [] (RT t u w v x) m) : ∀ (k : Nat) (v3 : Int32) (m : Mm), f_X11_even_L38 v1 v2 K k v3 m = some (rE, mE) → J X G ρ n 4 38 [(0, .ref 78), (1, .int v1), (2, .int v2), (3, .int v3)] [] (RT t u w v x) m := by
  intro k
  induction k with
  | zero => intro _ _ h; rw [f_X11_even_L38] at h; cases h
  | succ k ih =>
    intro v3 m h
    rw [f_X11_even_L38] at h
    refine J_iload_n hX dX11_even_38 rfl 3 rfl ?_
    refine J_iload_n hX dX11_even_39 rfl 2 rfl ?_
    refine J_icmp_ge hX 61 dX11_even_40 (by decide) h (fun c h => ?_) (fun c h => ?_)
    · refine J_aload_n hX dX11_even_43 rfl 0 rfl ?_
      refine J_iload_n hX dX11_even_44 rfl 2 rfl ?_
      refine J_iload_n hX dX11_even_45 rfl 3 rfl ?_
      obtain ⟨r5, m4, h0, h⟩ := bd2_some h
      refine J_callVi (As := [.int v2, .int v3]) (st := []) hX dX11_even_46 cw_RX11_431 (by omega) (c_X11_pairsOf hn  h0) (ltn ltc_78 hn) lo_78 (by decide) rfl rfl rfl (Nat.le_of_ble_eq_true rfl) ?_
      clear h0
      refine J_iload_n hX dX11_even_49 rfl 1 rfl ?_
      refine J_icmp_eq hX 55 dX11_even_50 (by decide) h (fun c h => ?_) (fun c h => ?_)
      · refine J_iinc hX (v3 + (1 : Int32)) [(3, .int (v3 + (1 : Int32))), (0, .ref 78), (1, .int v1), (2, .int v2)] dX11_even_55 3 rfl (congrArg (fun z => v3 + z) ic_1) (by decide) rfl ?_
        refine J_goto hX 38 dX11_even_58 (by decide) ?_
        refine J_sub [(0, .ref 78), (1, .int v1), (2, .int v2), (3, .int (v3 + (1 : Int32)))] [1, 2, 3, 0] rfl ?_
        exact ih (v3 + (1 : Int32)) m4 h
      · refine J_iconst hX (-1 : Int32) dX11_even_53 ic_m1 ?_
        exact J_ireturn hX dX11_even_54 h hF rfl
    · refine J_sub [(0, .ref 78), (1, .int v1), (2, .int v2)] [0, 1, 2] rfl ?_
      exact hK  m h
def f_X11_even_L26 : Nat → Int32 → Int32 →  Mm → Option (Int32 × Mm)
  | 0, _, _, _ => none
  | k + 1, v1, v2, m => (if v2 < (gI m 80 (ix (0 : Int32))) then f_X11_even_L38 v1 v2 (fun m6 => f_X11_even_L26 k v1 (v2 + (1 : Int32)) m6) FU (0 : Int32) m else some (v1, m))
theorem t_X11_even_L26 {X : XX} {G : GG} {ρ : Nat → Nat} {n t u w v : Nat} {x : Option Nat} {d : Nat} (hX : Ok X G ρ cX11_even 4 RX11 d) (hd0 : 2 ≤ d) (hn : 126 ≤ n) {rE : Int32} {mE : Mm} (hF : Fin' X G ρ n (some .int) (some (.int rE)) (RT t u w v x) mE) : ∀ (k : Nat) (v1 : Int32) (v2 : Int32) (m : Mm), f_X11_even_L26 k v1 v2 m = some (rE, mE) → J X G ρ n 4 26 [(0, .ref 78), (1, .int v1), (2, .int v2)] [] (RT t u w v x) m := by
  intro k
  induction k with
  | zero => intro _ _ _ h; rw [f_X11_even_L26] at h; cases h
  | succ k ih =>
    intro v1 v2 m h
    rw [f_X11_even_L26] at h
    refine J_iload_n hX dX11_even_26 rfl 2 rfl ?_
    refine J_aload_n hX dX11_even_27 rfl 0 rfl ?_
    refine J_getR hX dX11_even_28 fl_RX11_13 (ltn ltc_78 hn) lo_78 rfl (rt_78_10 _ _ _ _ _) ?_
    refine J_iconst hX (0 : Int32) dX11_even_31 ic_0 ?_
    refine J_iaload0 hX dX11_even_32 (ltn ltc_80 hn) lay_80 (by decide) ?_
    refine J_icmp_ge hX 67 dX11_even_33 (by decide) h (fun c h => ?_) (fun c h => ?_)
    · refine J_iconst hX (0 : Int32) dX11_even_36 ic_0 ?_
      refine J_istore_n hX [(3, .int (0 : Int32)), (0, .ref 78), (1, .int v1), (2, .int v2)] dX11_even_37 rfl (by decide) rfl ?_
      refine J_sub [(0, .ref 78), (1, .int v1), (2, .int v2), (3, .int (0 : Int32))] [1, 2, 3, 0] rfl ?_
      refine t_X11_even_L38 hX hd0 hn hF (fun m6 h => ?_) FU (0 : Int32) m h
      refine J_iinc hX (v2 + (1 : Int32)) [(2, .int (v2 + (1 : Int32))), (0, .ref 78), (1, .int v1)] dX11_even_61 2 rfl (congrArg (fun z => v2 + z) ic_1) (by decide) rfl ?_
      refine J_goto hX 26 dX11_even_64 (by decide) ?_
      refine J_sub [(0, .ref 78), (1, .int v1), (2, .int (v2 + (1 : Int32)))] [1, 2, 0] rfl ?_
      exact ih v1 (v2 + (1 : Int32)) m6 h
    · refine J_iload_n hX dX11_even_67 rfl 1 rfl ?_
      exact J_ireturn hX dX11_even_68 h hF rfl
def f_X11_even (m : Mm) : Option (Int32 × Mm) := stI m 78 0 (0 : Int32) (fun m1 => (if (gI m1 80 (ix (0 : Int32))) < (2 : Int32) then some ((-1 : Int32), m1) else bd2 (f_X11_pairsOf (0 : Int32) (1 : Int32) m1) (fun r3 m2 => f_X11_even_L26 FU r3 (0 : Int32)  m2)))
theorem t_X11_even {X : XX} {G : GG} {ρ : Nat → Nat} {n t u w v : Nat} {x : Option Nat} {d : Nat} (hX : Ok X G ρ cX11_even 4 RX11 d) (hd0 : 2 ≤ d) (hn : 126 ≤ n) {rE : Int32} {mE : Mm} (hF : Fin' X G ρ n (some .int) (some (.int rE)) (RT t u w v x) mE) {m : Mm} (h : f_X11_even m = some (rE, mE)) : J X G ρ n 4 0 [(0, .ref 78)] [] (RT t u w v x) m := by
  unfold f_X11_even at h
  refine J_aload_n hX dX11_even_0 rfl 0 rfl ?_
  refine J_iconst hX (0 : Int32) dX11_even_1 ic_0 ?_
  refine J_putI hX dX11_even_2 pl_RX11_152 (ltn ltc_78 hn) lo_78 rfl rfl rfl h (fun m1 h => ?_)
  refine J_aload_n hX dX11_even_5 rfl 0 rfl ?_
  refine J_getR hX dX11_even_6 fl_RX11_13 (ltn ltc_78 hn) lo_78 rfl (rt_78_10 _ _ _ _ _) ?_
  refine J_iconst hX (0 : Int32) dX11_even_9 ic_0 ?_
  refine J_iaload0 hX dX11_even_10 (ltn ltc_80 hn) lay_80 (by decide) ?_
  refine J_iconst hX (2 : Int32) dX11_even_11 ic_2 ?_
  refine J_icmp_ge hX 17 dX11_even_12 (by decide) h (fun c h => ?_) (fun c h => ?_)
  · refine J_iconst hX (-1 : Int32) dX11_even_15 ic_m1 ?_
    exact J_ireturn hX dX11_even_16 h hF rfl
  · refine J_aload_n hX dX11_even_17 rfl 0 rfl ?_
    refine J_iconst hX (0 : Int32) dX11_even_18 ic_0 ?_
    refine J_iconst hX (1 : Int32) dX11_even_19 ic_1 ?_
    obtain ⟨r3, m2, h0, h⟩ := bd2_some h
    refine J_callVi (As := [.int (0 : Int32), .int (1 : Int32)]) (st := []) hX dX11_even_20 cw_RX11_431 (by omega) (c_X11_pairsOf hn  h0) (ltn ltc_78 hn) lo_78 (by decide) rfl rfl rfl (Nat.le_of_ble_eq_true rfl) ?_
    clear h0
    refine J_istore_n hX [(1, .int r3), (0, .ref 78)] dX11_even_23 rfl (by decide) rfl ?_
    refine J_iconst hX (0 : Int32) dX11_even_24 ic_0 ?_
    refine J_istore_n hX [(2, .int (0 : Int32)), (1, .int r3), (0, .ref 78)] dX11_even_25 rfl (by decide) rfl ?_
    refine J_sub [(0, .ref 78), (1, .int r3), (2, .int (0 : Int32))] [2, 1, 0] rfl ?_
    exact t_X11_even_L26 hX hd0 hn hF FU r3 (0 : Int32)  m2 h
theorem c_X11_even {G : GG} {l : Launch} {ρ : Nat → Nat} {n t u w v : Nat} {x : Option Nat} (hn : 126 ≤ n) {m : Mm} {rE : Int32} {mE : Mm} (h : f_X11_even m = some (rE, mE)) : CT G l yX11_even cX11_even 4 (some .int) 2 0 0 ρ n (RT t u w v x) [.ref 78] m (some (.int rE)) (RT t u w v x) mE := ct_of_J (by decide) rfl (Nat.le_of_ble_eq_true rfl) (fun X hX e1 e2 e3 e4 hQ hr hl => t_X11_even hX (Nat.le_refl _) hn ⟨by rw [hQ, e3, e4], hr, hl⟩ h)
def f_X4_mostShared_L4 (a : Nat) : Nat → Int32 → Int32 → Int32 →  Mm → Option (Int32 × Mm)
  | 0, _, _, _, _ => none
  | k + 1, v1, v2, v3, m => (if v3 < (gI m a 0) then (if v3 = v1 then f_X4_mostShared_L4 a k v1 v2 (v3 + (1 : Int32)) m else bd2 (f_X4_shared a v1 v3 m) (fun r2 m1 => f_X4_mostShared_L4 a k v1 (imax v2 r2) (v3 + (1 : Int32)) m1)) else some (v2, m))
theorem t_X4_mostShared_L4 {X : XX} {G : GG} {ρ : Nat → Nat} {n t u w v : Nat} {x : Option Nat} {d : Nat} {a : Nat} (hX : Ok X G ρ cX4_mostShared 4 RX4 d) (hd0 : 1 ≤ d) (hn : 126 ≤ n) (ha : isLa a) {rE : Int32} {mE : Mm} (hF : Fin' X G ρ n (some .int) (some (.int rE)) (RT t u w v x) mE) : ∀ (k : Nat) (v1 : Int32) (v2 : Int32) (v3 : Int32) (m : Mm), f_X4_mostShared_L4 a k v1 v2 v3 m = some (rE, mE) → J X G ρ n 4 4 [(0, .ref a), (1, .int v1), (2, .int v2), (3, .int v3)] [] (RT t u w v x) m := by
  intro k
  induction k with
  | zero => intro _ _ _ _ h; rw [f_X4_mostShared_L4] at h; cases h
  | succ k ih =>
    intro v1 v2 v3 m h
    rw [f_X4_mostShared_L4] at h
    refine J_iload_n hX dX4_mostShared_4 rfl 3 rfl ?_
    refine J_aload_n hX dX4_mostShared_5 rfl 0 rfl ?_
    refine J_getI hX dX4_mostShared_6 fl_RX4_78 (ltn (lt_isLa_0 ha) hn) (lo_isLa_0 ha) rfl ?_
    refine J_icmp_ge hX 34 dX4_mostShared_9 (by decide) h (fun c h => ?_) (fun c h => ?_)
    · refine J_iload_n hX dX4_mostShared_12 rfl 3 rfl ?_
      refine J_iload_n hX dX4_mostShared_13 rfl 1 rfl ?_
      refine J_icmp_eq hX 28 dX4_mostShared_14 (by decide) h (fun c h => ?_) (fun c h => ?_)
      · refine J_iinc hX (v3 + (1 : Int32)) [(3, .int (v3 + (1 : Int32))), (0, .ref a), (1, .int v1), (2, .int v2)] dX4_mostShared_28 3 rfl (congrArg (fun z => v3 + z) ic_1) (by decide) rfl ?_
        refine J_goto hX 4 dX4_mostShared_31 (by decide) ?_
        refine J_sub [(0, .ref a), (1, .int v1), (2, .int v2), (3, .int (v3 + (1 : Int32)))] [1, 2, 3, 0] rfl ?_
        exact ih v1 v2 (v3 + (1 : Int32)) m h
      · refine J_iload_n hX dX4_mostShared_17 rfl 2 rfl ?_
        refine J_aload_n hX dX4_mostShared_18 rfl 0 rfl ?_
        refine J_iload_n hX dX4_mostShared_19 rfl 1 rfl ?_
        refine J_iload_n hX dX4_mostShared_20 rfl 3 rfl ?_
        obtain ⟨r2, m1, h0, h⟩ := bd2_some h
        refine J_callVi (As := [.int v1, .int v3]) (st := [.int v2]) hX dX4_mostShared_21 cw_RX4_101 (by omega) (c_X4_shared hn ha h0) (ltn (lt_isLa_0 ha) hn) (lo_isLa_0 ha) (by decide) rfl rfl rfl (Nat.le_of_ble_eq_true rfl) ?_
        clear h0
        refine J_imax hX dX4_mostShared_24 (by omega) cm_RX4_104 (Nat.le_of_ble_eq_true rfl) ?_
        refine J_istore_n hX [(2, .int (imax v2 r2)), (0, .ref a), (1, .int v1), (3, .int v3)] dX4_mostShared_27 rfl (by decide) rfl ?_
        refine J_iinc hX (v3 + (1 : Int32)) [(3, .int (v3 + (1 : Int32))), (2, .int (imax v2 r2)), (0, .ref a), (1, .int v1)] dX4_mostShared_28 3 rfl (congrArg (fun z => v3 + z) ic_1) (by decide) rfl ?_
        refine J_goto hX 4 dX4_mostShared_31 (by decide) ?_
        refine J_sub [(0, .ref a), (1, .int v1), (2, .int (imax v2 r2)), (3, .int (v3 + (1 : Int32)))] [2, 3, 1, 0] rfl ?_
        exact ih v1 (imax v2 r2) (v3 + (1 : Int32)) m1 h
    · refine J_iload_n hX dX4_mostShared_34 rfl 2 rfl ?_
      exact J_ireturn hX dX4_mostShared_35 h hF rfl
def f_X4_mostShared (a : Nat) (x1 : Int32) (m : Mm) : Option (Int32 × Mm) := f_X4_mostShared_L4 a FU x1 (0 : Int32) (0 : Int32)  m
theorem t_X4_mostShared {X : XX} {G : GG} {ρ : Nat → Nat} {n t u w v : Nat} {x : Option Nat} {d : Nat} {a : Nat} (hX : Ok X G ρ cX4_mostShared 4 RX4 d) (hd0 : 1 ≤ d) (hn : 126 ≤ n) (ha : isLa a) {rE : Int32} {mE : Mm} (hF : Fin' X G ρ n (some .int) (some (.int rE)) (RT t u w v x) mE) {x1 : Int32} {m : Mm} (h : f_X4_mostShared a x1 m = some (rE, mE)) : J X G ρ n 4 0 [(0, .ref a), (1, .int x1)] [] (RT t u w v x) m := by
  unfold f_X4_mostShared at h
  refine J_iconst hX (0 : Int32) dX4_mostShared_0 ic_0 ?_
  refine J_istore_n hX [(2, .int (0 : Int32)), (0, .ref a), (1, .int x1)] dX4_mostShared_1 rfl (by decide) rfl ?_
  refine J_iconst hX (0 : Int32) dX4_mostShared_2 ic_0 ?_
  refine J_istore_n hX [(3, .int (0 : Int32)), (2, .int (0 : Int32)), (0, .ref a), (1, .int x1)] dX4_mostShared_3 rfl (by decide) rfl ?_
  refine J_sub [(0, .ref a), (1, .int x1), (2, .int (0 : Int32)), (3, .int (0 : Int32))] [2, 3, 1, 0] rfl ?_
  exact t_X4_mostShared_L4 hX hd0 hn ha hF FU x1 (0 : Int32) (0 : Int32)  m h
theorem c_X4_mostShared {G : GG} {l : Launch} {ρ : Nat → Nat} {n t u w v : Nat} {x : Option Nat} (hn : 126 ≤ n) {a : Nat} (ha : isLa a) {x1 : Int32} {m : Mm} {rE : Int32} {mE : Mm} (h : f_X4_mostShared a x1 m = some (rE, mE)) : CT G l yX4_mostShared cX4_mostShared 4 (some .int) 1 0 0 ρ n (RT t u w v x) [.ref a, .int x1] m (some (.int rE)) (RT t u w v x) mE := ct_of_J (by decide) rfl (Nat.le_of_ble_eq_true rfl) (fun X hX e1 e2 e3 e4 hQ hr hl => t_X4_mostShared hX (Nat.le_refl _) hn ha ⟨by rw [hQ, e3, e4], hr, hl⟩ h)
def f_X10_worst (t : Nat) (u : Nat) (w : Nat) (v : Nat) (x1 : Int32) (m : Mm) : Option (Int32 × Mm) := bd2 (f_X10_isDisk t u w v x1 m) (fun r2 m1 => (if r2 = 0 then some ((-1 : Int32), m1) else bd2 (f_X4_mostShared 26 x1 m1) (fun r4 m3 => some (r4, m3))))
theorem t_X10_worst {X : XX} {G : GG} {ρ : Nat → Nat} {n : Nat} {x : Option Nat} {d : Nat} {t : Nat} {u : Nat} {w : Nat} {v : Nat} (hX : Ok X G ρ cX10_worst 2 RX10 d) (hd0 : 2 ≤ d) (hn : 126 ≤ n) (ht : isTo t) (hu : isTo u) (hw : isWk w) (hv : isWk v) {rE : Int32} {mE : Mm} (hF : Fin' X G ρ n (some .int) (some (.int rE)) (RT t u w v x) mE) {x1 : Int32} {m : Mm} (h : f_X10_worst t u w v x1 m = some (rE, mE)) : J X G ρ n 2 0 [(0, .ref 0), (1, .int x1)] [] (RT t u w v x) m := by
  unfold f_X10_worst at h
  refine J_aload_n hX dX10_worst_0 rfl 0 rfl ?_
  refine J_iload_n hX dX10_worst_1 rfl 1 rfl ?_
  obtain ⟨r2, m1, h0, h⟩ := bd2_some h
  refine J_callVi (As := [.int x1]) (st := []) hX dX10_worst_2 cw_RX10_168 (by omega) (c_X10_isDisk hn ht hu hw hv h0) (ltn ltc_0 hn) lo_0 (by decide) rfl rfl rfl (Nat.le_of_ble_eq_true rfl) ?_
  clear h0
  refine J_if_eq hX 19 dX10_worst_5 (by decide) h (fun c h => ?_) (fun c h => ?_)
  · refine J_iconst hX (-1 : Int32) dX10_worst_19 ic_m1 ?_
    exact J_ireturn hX dX10_worst_20 h hF rfl
  · refine J_aload_n hX dX10_worst_8 rfl 0 rfl ?_
    refine J_getR hX dX10_worst_9 fl_RX10_48 (ltn ltc_0 hn) lo_0 rfl (rt_0_6 _ _ _ _ _) ?_
    refine J_iload_n hX dX10_worst_12 rfl 1 rfl ?_
    obtain ⟨r4, m3, h0, h⟩ := bd2_some h
    refine J_callVi (As := [.int x1]) (st := []) hX dX10_worst_13 cw_RX10_236 (by omega) (c_X4_mostShared hn p_isLa_26 h0) (ltn ltc_26 hn) lo_26 (by decide) rfl rfl rfl (Nat.le_of_ble_eq_true rfl) ?_
    clear h0
    refine J_goto hX 20 dX10_worst_16 (by decide) ?_
    exact J_ireturn hX dX10_worst_20 h hF rfl
theorem c_X10_worst {G : GG} {l : Launch} {ρ : Nat → Nat} {n : Nat} {x : Option Nat} (hn : 126 ≤ n) {t : Nat} {u : Nat} {w : Nat} {v : Nat} (ht : isTo t) (hu : isTo u) (hw : isWk w) (hv : isWk v) {x1 : Int32} {m : Mm} {rE : Int32} {mE : Mm} (h : f_X10_worst t u w v x1 m = some (rE, mE)) : CT G l yX10_worst cX10_worst 2 (some .int) 2 0 0 ρ n (RT t u w v x) [.ref 0, .int x1] m (some (.int rE)) (RT t u w v x) mE := ct_of_J (by decide) rfl (Nat.le_of_ble_eq_true rfl) (fun X hX e1 e2 e3 e4 hQ hr hl => t_X10_worst hX (Nat.le_refl _) hn ht hu hw hv ⟨by rw [hQ, e3, e4], hr, hl⟩ h)
def f_X11_worst_L19 : Nat → Int32 → Int32 → Int32 →  Mm → Option (Int32 × Mm)
  | 0, _, _, _, _ => none
  | k + 1, v1, v2, v3, m => (if v3 < (gI m 80 (ix (0 : Int32))) then (if v3 = v1 then f_X11_worst_L19 k v1 v2 (v3 + (1 : Int32)) m else bd2 (f_X11_pairsOf v1 v3 m) (fun r5 m4 => f_X11_worst_L19 k v1 (imax v2 r5) (v3 + (1 : Int32)) m4)) else some (v2, m))
theorem t_X11_worst_L19 {X : XX} {G : GG} {ρ : Nat → Nat} {n t u w v : Nat} {x : Option Nat} {d : Nat} (hX : Ok X G ρ cX11_worst 4 RX11 d) (hd0 : 2 ≤ d) (hn : 126 ≤ n) {rE : Int32} {mE : Mm} (hF : Fin' X G ρ n (some .int) (some (.int rE)) (RT t u w v x) mE) : ∀ (k : Nat) (v1 : Int32) (v2 : Int32) (v3 : Int32) (m : Mm), f_X11_worst_L19 k v1 v2 v3 m = some (rE, mE) → J X G ρ n 4 19 [(0, .ref 78), (1, .int v1), (2, .int v2), (3, .int v3)] [] (RT t u w v x) m := by
  intro k
  induction k with
  | zero => intro _ _ _ _ h; rw [f_X11_worst_L19] at h; cases h
  | succ k ih =>
    intro v1 v2 v3 m h
    rw [f_X11_worst_L19] at h
    refine J_iload_n hX dX11_worst_19 rfl 3 rfl ?_
    refine J_aload_n hX dX11_worst_20 rfl 0 rfl ?_
    refine J_getR hX dX11_worst_21 fl_RX11_13 (ltn ltc_78 hn) lo_78 rfl (rt_78_10 _ _ _ _ _) ?_
    refine J_iconst hX (0 : Int32) dX11_worst_24 ic_0 ?_
    refine J_iaload0 hX dX11_worst_25 (ltn ltc_80 hn) lay_80 (by decide) ?_
    refine J_icmp_ge hX 51 dX11_worst_26 (by decide) h (fun c h => ?_) (fun c h => ?_)
    · refine J_iload_n hX dX11_worst_29 rfl 3 rfl ?_
      refine J_iload_n hX dX11_worst_30 rfl 1 rfl ?_
      refine J_icmp_eq hX 45 dX11_worst_31 (by decide) h (fun c h => ?_) (fun c h => ?_)
      · refine J_iinc hX (v3 + (1 : Int32)) [(3, .int (v3 + (1 : Int32))), (0, .ref 78), (1, .int v1), (2, .int v2)] dX11_worst_45 3 rfl (congrArg (fun z => v3 + z) ic_1) (by decide) rfl ?_
        refine J_goto hX 19 dX11_worst_48 (by decide) ?_
        refine J_sub [(0, .ref 78), (1, .int v1), (2, .int v2), (3, .int (v3 + (1 : Int32)))] [1, 2, 3, 0] rfl ?_
        exact ih v1 v2 (v3 + (1 : Int32)) m h
      · refine J_iload_n hX dX11_worst_34 rfl 2 rfl ?_
        refine J_aload_n hX dX11_worst_35 rfl 0 rfl ?_
        refine J_iload_n hX dX11_worst_36 rfl 1 rfl ?_
        refine J_iload_n hX dX11_worst_37 rfl 3 rfl ?_
        obtain ⟨r5, m4, h0, h⟩ := bd2_some h
        refine J_callVi (As := [.int v1, .int v3]) (st := [.int v2]) hX dX11_worst_38 cw_RX11_431 (by omega) (c_X11_pairsOf hn  h0) (ltn ltc_78 hn) lo_78 (by decide) rfl rfl rfl (Nat.le_of_ble_eq_true rfl) ?_
        clear h0
        refine J_imax hX dX11_worst_41 (by omega) cm_RX11_434 (Nat.le_of_ble_eq_true rfl) ?_
        refine J_istore_n hX [(2, .int (imax v2 r5)), (0, .ref 78), (1, .int v1), (3, .int v3)] dX11_worst_44 rfl (by decide) rfl ?_
        refine J_iinc hX (v3 + (1 : Int32)) [(3, .int (v3 + (1 : Int32))), (2, .int (imax v2 r5)), (0, .ref 78), (1, .int v1)] dX11_worst_45 3 rfl (congrArg (fun z => v3 + z) ic_1) (by decide) rfl ?_
        refine J_goto hX 19 dX11_worst_48 (by decide) ?_
        refine J_sub [(0, .ref 78), (1, .int v1), (2, .int (imax v2 r5)), (3, .int (v3 + (1 : Int32)))] [2, 3, 1, 0] rfl ?_
        exact ih v1 (imax v2 r5) (v3 + (1 : Int32)) m4 h
    · refine J_iload_n hX dX11_worst_51 rfl 2 rfl ?_
      exact J_ireturn hX dX11_worst_52 h hF rfl
def f_X11_worst (x1 : Int32) (m : Mm) : Option (Int32 × Mm) := stI m 78 0 (0 : Int32) (fun m1 => bd2 (f_X11_isDisk x1 m1) (fun r3 m2 => (if r3 = 0 then some ((-1 : Int32), m2) else f_X11_worst_L19 FU x1 (0 : Int32) (0 : Int32)  m2)))
theorem t_X11_worst {X : XX} {G : GG} {ρ : Nat → Nat} {n t u w v : Nat} {x : Option Nat} {d : Nat} (hX : Ok X G ρ cX11_worst 4 RX11 d) (hd0 : 2 ≤ d) (hn : 126 ≤ n) {rE : Int32} {mE : Mm} (hF : Fin' X G ρ n (some .int) (some (.int rE)) (RT t u w v x) mE) {x1 : Int32} {m : Mm} (h : f_X11_worst x1 m = some (rE, mE)) : J X G ρ n 4 0 [(0, .ref 78), (1, .int x1)] [] (RT t u w v x) m := by
  unfold f_X11_worst at h
  refine J_aload_n hX dX11_worst_0 rfl 0 rfl ?_
  refine J_iconst hX (0 : Int32) dX11_worst_1 ic_0 ?_
  refine J_putI hX dX11_worst_2 pl_RX11_152 (ltn ltc_78 hn) lo_78 rfl rfl rfl h (fun m1 h => ?_)
  refine J_aload_n hX dX11_worst_5 rfl 0 rfl ?_
  refine J_iload_n hX dX11_worst_6 rfl 1 rfl ?_
  obtain ⟨r3, m2, h0, h⟩ := bd2_some h
  refine J_callVi (As := [.int x1]) (st := []) hX dX11_worst_7 cw_RX11_385 (by omega) (c_X11_isDisk hn  h0) (ltn ltc_78 hn) lo_78 (by decide) rfl rfl rfl (Nat.le_of_ble_eq_true rfl) ?_
  clear h0
  refine J_if_ne hX 15 dX11_worst_10 (by decide) h (fun c h => ?_) (fun c h => ?_)
  · refine J_iconst hX (-1 : Int32) dX11_worst_13 ic_m1 ?_
    exact J_ireturn hX dX11_worst_14 h hF rfl
  · refine J_iconst hX (0 : Int32) dX11_worst_15 ic_0 ?_
    refine J_istore_n hX [(2, .int (0 : Int32)), (0, .ref 78), (1, .int x1)] dX11_worst_16 rfl (by decide) rfl ?_
    refine J_iconst hX (0 : Int32) dX11_worst_17 ic_0 ?_
    refine J_istore_n hX [(3, .int (0 : Int32)), (2, .int (0 : Int32)), (0, .ref 78), (1, .int x1)] dX11_worst_18 rfl (by decide) rfl ?_
    refine J_sub [(0, .ref 78), (1, .int x1), (2, .int (0 : Int32)), (3, .int (0 : Int32))] [2, 3, 1, 0] rfl ?_
    exact t_X11_worst_L19 hX hd0 hn hF FU x1 (0 : Int32) (0 : Int32)  m2 h
theorem c_X11_worst {G : GG} {l : Launch} {ρ : Nat → Nat} {n t u w v : Nat} {x : Option Nat} (hn : 126 ≤ n) {x1 : Int32} {m : Mm} {rE : Int32} {mE : Mm} (h : f_X11_worst x1 m = some (rE, mE)) : CT G l yX11_worst cX11_worst 4 (some .int) 2 0 0 ρ n (RT t u w v x) [.ref 78, .int x1] m (some (.int rE)) (RT t u w v x) mE := ct_of_J (by decide) rfl (Nat.le_of_ble_eq_true rfl) (fun X hX e1 e2 e3 e4 hQ hr hl => t_X11_worst hX (Nat.le_refl _) hn ⟨by rw [hQ, e3, e4], hr, hl⟩ h)
def f_X10_spread (t : Nat) (u : Nat) (w : Nat) (v : Nat) (x1 : Int32) (m : Mm) : Option (Int32 × Mm) := (if (gI m 26 0) = 0 then some ((-1 : Int32), m) else (if x1 = (0 : Int32) then bd2 (f_X10_spreadOf t u w v 37 (gI m 26 0) m) (fun r2 m1 => some (r2, m1)) else (if x1 = (1 : Int32) then bd2 (f_X10_spreadOf t u w v 38 (gI m 26 0) m) (fun r4 m3 => some (r4, m3)) else (if x1 = (2 : Int32) then bd2 (f_X10_spreadOf t u w v 39 (gI m 26 0) m) (fun r6 m5 => some (r6, m5)) else some ((-1 : Int32), m)))))
theorem t_X10_spread {X : XX} {G : GG} {ρ : Nat → Nat} {n : Nat} {x : Option Nat} {d : Nat} {t : Nat} {u : Nat} {w : Nat} {v : Nat} (hX : Ok X G ρ cX10_spread 2 RX10 d) (hd0 : 2 ≤ d) (hn : 126 ≤ n) (ht : isTo t) (hu : isTo u) (hw : isWk w) (hv : isWk v) {rE : Int32} {mE : Mm} (hF : Fin' X G ρ n (some .int) (some (.int rE)) (RT t u w v x) mE) {x1 : Int32} {m : Mm} (h : f_X10_spread t u w v x1 m = some (rE, mE)) : J X G ρ n 2 0 [(0, .ref 0), (1, .int x1)] [] (RT t u w v x) m := by
  unfold f_X10_spread at h
  refine J_aload_n hX dX10_spread_0 rfl 0 rfl ?_
  refine J_getR hX dX10_spread_1 fl_RX10_48 (ltn ltc_0 hn) lo_0 rfl (rt_0_6 _ _ _ _ _) ?_
  refine J_getI hX dX10_spread_4 fl_RX10_110 (ltn ltc_26 hn) lo_26 rfl ?_
  refine J_if_ne hX 12 dX10_spread_7 (by decide) h (fun c h => ?_) (fun c h => ?_)
  · refine J_iconst hX (-1 : Int32) dX10_spread_10 ic_m1 ?_
    exact J_ireturn hX dX10_spread_11 h hF rfl
  · refine J_iload_n hX dX10_spread_12 rfl 1 rfl ?_
    refine J_split h (fun c0 h => ?_) (fun c0 h => ?_)
    · refine J_tabIn hX 40 (0 : Int32) dX10_spread_13 c0 (by decide) (by decide) (by decide) (by decide) ?_
      refine J_aload_n hX dX10_spread_40 rfl 0 rfl ?_
      refine J_getR hX dX10_spread_41 fl_RX10_48 (ltn ltc_0 hn) lo_0 rfl (rt_0_6 _ _ _ _ _) ?_
      refine J_getR hX dX10_spread_44 fl_RX10_177 (ltn ltc_26 hn) lo_26 rfl (rt_26_13 _ _ _ _ _) ?_
      refine J_aload_n hX dX10_spread_47 rfl 0 rfl ?_
      refine J_getR hX dX10_spread_48 fl_RX10_48 (ltn ltc_0 hn) lo_0 rfl (rt_0_6 _ _ _ _ _) ?_
      refine J_getI hX dX10_spread_51 fl_RX10_110 (ltn ltc_26 hn) lo_26 rfl ?_
      obtain ⟨r2, m1, h0, h⟩ := bd2_some h
      refine J_callSi (As := [.ref 37, .int (gI m 26 0)]) (st := []) hX dX10_spread_54 cw_RX10_239 (by omega) (c_X10_spreadOf hn ht hu hw hv p_isIa_37 h0) rfl rfl (Nat.le_of_ble_eq_true rfl) ?_
      clear h0
      exact J_ireturn hX dX10_spread_57 h hF rfl
    · refine J_split h (fun c1 h => ?_) (fun c1 h => ?_)
      · refine J_tabIn hX 58 (1 : Int32) dX10_spread_13 c1 (by decide) (by decide) (by decide) (by decide) ?_
        refine J_aload_n hX dX10_spread_58 rfl 0 rfl ?_
        refine J_getR hX dX10_spread_59 fl_RX10_48 (ltn ltc_0 hn) lo_0 rfl (rt_0_6 _ _ _ _ _) ?_
        refine J_getR hX dX10_spread_62 fl_RX10_180 (ltn ltc_26 hn) lo_26 rfl (rt_26_14 _ _ _ _ _) ?_
        refine J_aload_n hX dX10_spread_65 rfl 0 rfl ?_
        refine J_getR hX dX10_spread_66 fl_RX10_48 (ltn ltc_0 hn) lo_0 rfl (rt_0_6 _ _ _ _ _) ?_
        refine J_getI hX dX10_spread_69 fl_RX10_110 (ltn ltc_26 hn) lo_26 rfl ?_
        obtain ⟨r4, m3, h0, h⟩ := bd2_some h
        refine J_callSi (As := [.ref 38, .int (gI m 26 0)]) (st := []) hX dX10_spread_72 cw_RX10_239 (by omega) (c_X10_spreadOf hn ht hu hw hv p_isIa_38 h0) rfl rfl (Nat.le_of_ble_eq_true rfl) ?_
        clear h0
        exact J_ireturn hX dX10_spread_75 h hF rfl
      · refine J_split h (fun c2 h => ?_) (fun c2 h => ?_)
        · refine J_tabIn hX 76 (2 : Int32) dX10_spread_13 c2 (by decide) (by decide) (by decide) (by decide) ?_
          refine J_aload_n hX dX10_spread_76 rfl 0 rfl ?_
          refine J_getR hX dX10_spread_77 fl_RX10_48 (ltn ltc_0 hn) lo_0 rfl (rt_0_6 _ _ _ _ _) ?_
          refine J_getR hX dX10_spread_80 fl_RX10_183 (ltn ltc_26 hn) lo_26 rfl (rt_26_15 _ _ _ _ _) ?_
          refine J_aload_n hX dX10_spread_83 rfl 0 rfl ?_
          refine J_getR hX dX10_spread_84 fl_RX10_48 (ltn ltc_0 hn) lo_0 rfl (rt_0_6 _ _ _ _ _) ?_
          refine J_getI hX dX10_spread_87 fl_RX10_110 (ltn ltc_26 hn) lo_26 rfl ?_
          obtain ⟨r6, m5, h0, h⟩ := bd2_some h
          refine J_callSi (As := [.ref 39, .int (gI m 26 0)]) (st := []) hX dX10_spread_90 cw_RX10_239 (by omega) (c_X10_spreadOf hn ht hu hw hv p_isIa_39 h0) rfl rfl (Nat.le_of_ble_eq_true rfl) ?_
          clear h0
          exact J_ireturn hX dX10_spread_93 h hF rfl
        · refine J_tabOut hX 94 [(0 : Int32), (1 : Int32), (2 : Int32)] dX10_spread_13 (by decide) (by simp only [List.mem_cons, List.not_mem_nil, or_false, not_or]; exact ⟨c0, c1, c2⟩) (by decide) ?_
          refine J_iconst hX (-1 : Int32) dX10_spread_94 ic_m1 ?_
          exact J_ireturn hX dX10_spread_95 h hF rfl
theorem c_X10_spread {G : GG} {l : Launch} {ρ : Nat → Nat} {n : Nat} {x : Option Nat} (hn : 126 ≤ n) {t : Nat} {u : Nat} {w : Nat} {v : Nat} (ht : isTo t) (hu : isTo u) (hw : isWk w) (hv : isWk v) {x1 : Int32} {m : Mm} {rE : Int32} {mE : Mm} (h : f_X10_spread t u w v x1 m = some (rE, mE)) : CT G l yX10_spread cX10_spread 2 (some .int) 2 0 0 ρ n (RT t u w v x) [.ref 0, .int x1] m (some (.int rE)) (RT t u w v x) mE := ct_of_J (by decide) rfl (Nat.le_of_ble_eq_true rfl) (fun X hX e1 e2 e3 e4 hQ hr hl => t_X10_spread hX (Nat.le_refl _) hn ht hu hw hv ⟨by rw [hQ, e3, e4], hr, hl⟩ h)
def f_X11_spread_L34 : Nat → Int32 → Int32 → Int32 → Int32 →  Mm → Option (Int32 × Mm)
  | 0, _, _, _, _, _ => none
  | k + 1, v1, v2, v3, v4, m => (if v4 < (gI m 80 (ix (0 : Int32))) then bd2 (f_X11_ofDisk v4 (v1 + (1 : Int32)) m) (fun r5 m4 => bd2 (f_X11_ofDisk v4 (v1 + (1 : Int32)) m4) (fun r7 m6 => f_X11_spread_L34 k v1 (imax v2 r5) (imin v3 r7) (v4 + (1 : Int32)) m6)) else some ((v2 - v3), m))
theorem t_X11_spread_L34 {X : XX} {G : GG} {ρ : Nat → Nat} {n t u w v : Nat} {x : Option Nat} {d : Nat} (hX : Ok X G ρ cX11_spread 5 RX11 d) (hd0 : 3 ≤ d) (hn : 126 ≤ n) {rE : Int32} {mE : Mm} (hF : Fin' X G ρ n (some .int) (some (.int rE)) (RT t u w v x) mE) : ∀ (k : Nat) (v1 : Int32) (v2 : Int32) (v3 : Int32) (v4 : Int32) (m : Mm), f_X11_spread_L34 k v1 v2 v3 v4 m = some (rE, mE) → J X G ρ n 5 34 [(0, .ref 78), (1, .int v1), (2, .int v2), (3, .int v3), (4, .int v4)] [] (RT t u w v x) m := by
  intro k
  induction k with
  | zero => intro _ _ _ _ _ h; rw [f_X11_spread_L34] at h; cases h
  | succ k ih =>
    intro v1 v2 v3 v4 m h
    rw [f_X11_spread_L34] at h
    refine J_iload hX dX11_spread_34 4 rfl ?_
    refine J_aload_n hX dX11_spread_36 rfl 0 rfl ?_
    refine J_getR hX dX11_spread_37 fl_RX11_13 (ltn ltc_78 hn) lo_78 rfl (rt_78_10 _ _ _ _ _) ?_
    refine J_iconst hX (0 : Int32) dX11_spread_40 ic_0 ?_
    refine J_iaload0 hX dX11_spread_41 (ltn ltc_80 hn) lay_80 (by decide) ?_
    refine J_icmp_ge hX 79 dX11_spread_42 (by decide) h (fun c h => ?_) (fun c h => ?_)
    · refine J_iload_n hX dX11_spread_45 rfl 2 rfl ?_
      refine J_aload_n hX dX11_spread_46 rfl 0 rfl ?_
      refine J_iload hX dX11_spread_47 4 rfl ?_
      refine J_iload_n hX dX11_spread_49 rfl 1 rfl ?_
      refine J_iconst hX (1 : Int32) dX11_spread_50 ic_1 ?_
      refine J_iadd hX dX11_spread_51 ?_
      obtain ⟨r5, m4, h0, h⟩ := bd2_some h
      refine J_callVi (As := [.int v4, .int (v1 + (1 : Int32))]) (st := [.int v2]) hX dX11_spread_52 cw_RX11_391 (by omega) (c_X11_ofDisk hn  h0) (ltn ltc_78 hn) lo_78 (by decide) rfl rfl rfl (Nat.le_of_ble_eq_true rfl) ?_
      clear h0
      refine J_imax hX dX11_spread_55 (by omega) cm_RX11_434 (Nat.le_of_ble_eq_true rfl) ?_
      refine J_istore_n hX [(2, .int (imax v2 r5)), (0, .ref 78), (1, .int v1), (3, .int v3), (4, .int v4)] dX11_spread_58 rfl (by decide) rfl ?_
      refine J_iload_n hX dX11_spread_59 rfl 3 rfl ?_
      refine J_aload_n hX dX11_spread_60 rfl 1 rfl ?_
      refine J_iload hX dX11_spread_61 4 rfl ?_
      refine J_iload_n hX dX11_spread_63 rfl 2 rfl ?_
      refine J_iconst hX (1 : Int32) dX11_spread_64 ic_1 ?_
      refine J_iadd hX dX11_spread_65 ?_
      obtain ⟨r7, m6, h0, h⟩ := bd2_some h
      refine J_callVi (As := [.int v4, .int (v1 + (1 : Int32))]) (st := [.int v3]) hX dX11_spread_66 cw_RX11_391 (by omega) (c_X11_ofDisk hn  h0) (ltn ltc_78 hn) lo_78 (by decide) rfl rfl rfl (Nat.le_of_ble_eq_true rfl) ?_
      clear h0
      refine J_imin hX dX11_spread_69 (by omega) cm_RX11_439 (Nat.le_of_ble_eq_true rfl) ?_
      refine J_istore_n hX [(3, .int (imin v3 r7)), (2, .int (imax v2 r5)), (0, .ref 78), (1, .int v1), (4, .int v4)] dX11_spread_72 rfl (by decide) rfl ?_
      refine J_iinc hX (v4 + (1 : Int32)) [(4, .int (v4 + (1 : Int32))), (3, .int (imin v3 r7)), (2, .int (imax v2 r5)), (0, .ref 78), (1, .int v1)] dX11_spread_73 4 rfl (congrArg (fun z => v4 + z) ic_1) (by decide) rfl ?_
      refine J_goto hX 34 dX11_spread_76 (by decide) ?_
      refine J_sub [(0, .ref 78), (1, .int v1), (2, .int (imax v2 r5)), (3, .int (imin v3 r7)), (4, .int (v4 + (1 : Int32)))] [3, 4, 2, 1, 0] rfl ?_
      exact ih v1 (imax v2 r5) (imin v3 r7) (v4 + (1 : Int32)) m6 h
    · refine J_iload_n hX dX11_spread_79 rfl 2 rfl ?_
      refine J_iload_n hX dX11_spread_80 rfl 3 rfl ?_
      refine J_isub hX dX11_spread_81 ?_
      exact J_ireturn hX dX11_spread_82 h hF rfl
def f_X11_spread (x1 : Int32) (m : Mm) : Option (Int32 × Mm) := stI m 78 0 (0 : Int32) (fun m1 => bd2 (f_X11_within x1 (0 : Int32) (2 : Int32) m1) (fun r3 m2 => (if r3 = 0 then some ((-1 : Int32), m2) else (if (gI m2 80 (ix (0 : Int32))) = 0 then some ((-1 : Int32), m2) else f_X11_spread_L34 FU x1 (0 : Int32) (999 : Int32) (0 : Int32)  m2))))
theorem t_X11_spread {X : XX} {G : GG} {ρ : Nat → Nat} {n t u w v : Nat} {x : Option Nat} {d : Nat} (hX : Ok X G ρ cX11_spread 5 RX11 d) (hd0 : 3 ≤ d) (hn : 126 ≤ n) {rE : Int32} {mE : Mm} (hF : Fin' X G ρ n (some .int) (some (.int rE)) (RT t u w v x) mE) {x1 : Int32} {m : Mm} (h : f_X11_spread x1 m = some (rE, mE)) : J X G ρ n 5 0 [(0, .ref 78), (1, .int x1)] [] (RT t u w v x) m := by
  unfold f_X11_spread at h
  refine J_aload_n hX dX11_spread_0 rfl 0 rfl ?_
  refine J_iconst hX (0 : Int32) dX11_spread_1 ic_0 ?_
  refine J_putI hX dX11_spread_2 pl_RX11_152 (ltn ltc_78 hn) lo_78 rfl rfl rfl h (fun m1 h => ?_)
  refine J_iload_n hX dX11_spread_5 rfl 1 rfl ?_
  refine J_iconst hX (0 : Int32) dX11_spread_6 ic_0 ?_
  refine J_iconst hX (2 : Int32) dX11_spread_7 ic_2 ?_
  obtain ⟨r3, m2, h0, h⟩ := bd2_some h
  refine J_callSi (As := [.int x1, .int (0 : Int32), .int (2 : Int32)]) (st := []) hX dX11_spread_8 cw_RX11_239 (by omega) (c_X11_within hn  h0) rfl rfl (Nat.le_of_ble_eq_true rfl) ?_
  clear h0
  refine J_if_eq hX 23 dX11_spread_11 (by decide) h (fun c h => ?_) (fun c h => ?_)
  · refine J_iconst hX (-1 : Int32) dX11_spread_23 ic_m1 ?_
    exact J_ireturn hX dX11_spread_24 h hF rfl
  · refine J_aload_n hX dX11_spread_14 rfl 0 rfl ?_
    refine J_getR hX dX11_spread_15 fl_RX11_13 (ltn ltc_78 hn) lo_78 rfl (rt_78_10 _ _ _ _ _) ?_
    refine J_iconst hX (0 : Int32) dX11_spread_18 ic_0 ?_
    refine J_iaload0 hX dX11_spread_19 (ltn ltc_80 hn) lay_80 (by decide) ?_
    refine J_if_ne hX 25 dX11_spread_20 (by decide) h (fun c h => ?_) (fun c h => ?_)
    · refine J_iconst hX (-1 : Int32) dX11_spread_23 ic_m1 ?_
      exact J_ireturn hX dX11_spread_24 h hF rfl
    · refine J_iconst hX (0 : Int32) dX11_spread_25 ic_0 ?_
      refine J_istore_n hX [(2, .int (0 : Int32)), (0, .ref 78), (1, .int x1)] dX11_spread_26 rfl (by decide) rfl ?_
      refine J_sipush hX (999 : Int32) dX11_spread_27 (by decide) ?_
      refine J_istore_n hX [(3, .int (999 : Int32)), (2, .int (0 : Int32)), (0, .ref 78), (1, .int x1)] dX11_spread_30 rfl (by decide) rfl ?_
      refine J_iconst hX (0 : Int32) dX11_spread_31 ic_0 ?_
      refine J_istore hX [(4, .int (0 : Int32)), (3, .int (999 : Int32)), (2, .int (0 : Int32)), (0, .ref 78), (1, .int x1)] dX11_spread_32 (by decide) rfl ?_
      refine J_sub [(0, .ref 78), (1, .int x1), (2, .int (0 : Int32)), (3, .int (999 : Int32)), (4, .int (0 : Int32))] [3, 4, 2, 1, 0] rfl ?_
      exact t_X11_spread_L34 hX hd0 hn hF FU x1 (0 : Int32) (999 : Int32) (0 : Int32)  m2 h
theorem c_X11_spread {G : GG} {l : Launch} {ρ : Nat → Nat} {n t u w v : Nat} {x : Option Nat} (hn : 126 ≤ n) {x1 : Int32} {m : Mm} {rE : Int32} {mE : Mm} (h : f_X11_spread x1 m = some (rE, mE)) : CT G l yX11_spread cX11_spread 5 (some .int) 3 0 0 ρ n (RT t u w v x) [.ref 78, .int x1] m (some (.int rE)) (RT t u w v x) mE := ct_of_J (by decide) rfl (Nat.le_of_ble_eq_true rfl) (fun X hX e1 e2 e3 e4 hQ hr hl => t_X11_spread hX (Nat.le_refl _) hn ⟨by rw [hQ, e3, e4], hr, hl⟩ h)
def f_X10_differs_J36 (t : Nat) (u : Nat) (w : Nat) (v : Nat) (v1 : Int32) (v2 : Int32) (s0 : Int32) (m : Mm) : Option (Int32 × Mm) := (if s0 = 0 then some ((-1 : Int32), m) else bd2 (f_X8_bitsOf t v1 m) (fun r2 m1 => bd2 (f_X1_ofSet r2 v2 (gI m1 t 0) m1) (fun r4 m3 => some (r4, m3))))
theorem t_X10_differs_J36 {X : XX} {G : GG} {ρ : Nat → Nat} {n : Nat} {x : Option Nat} {d : Nat} {t : Nat} {u : Nat} {w : Nat} {v : Nat} (hX : Ok X G ρ cX10_differs 4 RX10 d) (hd0 : 2 ≤ d) (hn : 126 ≤ n) (ht : isTo t) (hu : isTo u) (hw : isWk w) (hv : isWk v) {rE : Int32} {mE : Mm} (hF : Fin' X G ρ n (some .int) (some (.int rE)) (RT t u w v x) mE) (v1 : Int32) (v2 : Int32) (s0 : Int32) (m : Mm) (h : f_X10_differs_J36 t u w v v1 v2 s0 m = some (rE, mE)) : J X G ρ n 4 36 [(0, .ref 0), (1, .int v1), (2, .int v2)] [.int s0] (RT t u w v x) m := by
  unfold f_X10_differs_J36 at h
  refine J_istore_n hX [(3, .int s0), (0, .ref 0), (1, .int v1), (2, .int v2)] dX10_differs_36 rfl (by decide) rfl ?_
  refine J_iload_n hX dX10_differs_37 rfl 0 rfl ?_
  refine J_if_eq hX 63 dX10_differs_38 (by decide) h (fun c h => ?_) (fun c h => ?_)
  · refine J_iconst hX (-1 : Int32) dX10_differs_63 ic_m1 ?_
    exact J_ireturn hX dX10_differs_64 h hF rfl
  · refine J_aload_n hX dX10_differs_41 rfl 1 rfl ?_
    refine J_getR hX dX10_differs_42 fl_RX10_28 (ltn ltc_0 hn) lo_0 rfl (rt_0_2 _ _ _ _ _) ?_
    refine J_iload_n hX dX10_differs_45 rfl 2 rfl ?_
    obtain ⟨r2, m1, h0, h⟩ := bd2_some h
    refine J_callVi (As := [.int v1]) (st := []) hX dX10_differs_46 cw_RX10_246 (by omega) (c_X8_bitsOf hn ht h0) (ltn (lt_isTo_0 ht) hn) (lo_isTo_0 ht) (by decide) rfl rfl rfl (Nat.le_of_ble_eq_true rfl) ?_
    clear h0
    refine J_iload_n hX dX10_differs_49 rfl 3 rfl ?_
    refine J_aload_n hX dX10_differs_50 rfl 1 rfl ?_
    refine J_getR hX dX10_differs_51 fl_RX10_28 (ltn ltc_0 hn) lo_0 rfl (rt_0_2 _ _ _ _ _) ?_
    refine J_getI hX dX10_differs_54 fl_RX10_96 (ltn (lt_isTo_0 ht) hn) (lo_isTo_0 ht) rfl ?_
    obtain ⟨r4, m3, h0, h⟩ := bd2_some h
    refine J_callSi (As := [.int r2, .int v2, .int (gI m1 t 0)]) (st := []) hX dX10_differs_57 cw_RX10_249 (by omega) (c_X1_ofSet hn  h0) rfl rfl (Nat.le_of_ble_eq_true rfl) ?_
    clear h0
    refine J_goto hX 64 dX10_differs_60 (by decide) ?_
    exact J_ireturn hX dX10_differs_64 h hF rfl
def f_X10_differs_J35 (t : Nat) (u : Nat) (w : Nat) (v : Nat) (v1 : Int32) (v2 : Int32) (m : Mm) : Option (Int32 × Mm) := f_X10_differs_J36 t u w v v1 v2 (0 : Int32) m
theorem t_X10_differs_J35 {X : XX} {G : GG} {ρ : Nat → Nat} {n : Nat} {x : Option Nat} {d : Nat} {t : Nat} {u : Nat} {w : Nat} {v : Nat} (hX : Ok X G ρ cX10_differs 4 RX10 d) (hd0 : 2 ≤ d) (hn : 126 ≤ n) (ht : isTo t) (hu : isTo u) (hw : isWk w) (hv : isWk v) {rE : Int32} {mE : Mm} (hF : Fin' X G ρ n (some .int) (some (.int rE)) (RT t u w v x) mE) (v1 : Int32) (v2 : Int32) (m : Mm) (h : f_X10_differs_J35 t u w v v1 v2 m = some (rE, mE)) : J X G ρ n 4 35 [(0, .ref 0), (1, .int v1), (2, .int v2)] [] (RT t u w v x) m := by
  unfold f_X10_differs_J35 at h
  refine J_iconst hX (0 : Int32) dX10_differs_35 ic_0 ?_
  exact t_X10_differs_J36 hX hd0 hn ht hu hw hv hF v1 v2 (0 : Int32) m h
def f_X10_differs (t : Nat) (u : Nat) (w : Nat) (v : Nat) (x1 : Int32) (x2 : Int32) (m : Mm) : Option (Int32 × Mm) := (if x1 < 0 then f_X10_differs_J35 t u w v x1 x2  m else (if x1 < (gI m t 2) then (if x2 < (1 : Int32) then f_X10_differs_J35 t u w v x1 x2  m else (if x2 < (gI m t 0) then f_X10_differs_J36 t u w v x1 x2 (1 : Int32) m else f_X10_differs_J35 t u w v x1 x2  m)) else f_X10_differs_J35 t u w v x1 x2  m))
theorem t_X10_differs {X : XX} {G : GG} {ρ : Nat → Nat} {n : Nat} {x : Option Nat} {d : Nat} {t : Nat} {u : Nat} {w : Nat} {v : Nat} (hX : Ok X G ρ cX10_differs 4 RX10 d) (hd0 : 2 ≤ d) (hn : 126 ≤ n) (ht : isTo t) (hu : isTo u) (hw : isWk w) (hv : isWk v) {rE : Int32} {mE : Mm} (hF : Fin' X G ρ n (some .int) (some (.int rE)) (RT t u w v x) mE) {x1 : Int32} {x2 : Int32} {m : Mm} (h : f_X10_differs t u w v x1 x2 m = some (rE, mE)) : J X G ρ n 4 0 [(0, .ref 0), (1, .int x1), (2, .int x2)] [] (RT t u w v x) m := by
  unfold f_X10_differs at h
  refine J_iload_n hX dX10_differs_0 rfl 1 rfl ?_
  refine J_if_lt hX 35 dX10_differs_1 (by decide) h (fun c h => ?_) (fun c h => ?_)
  · exact t_X10_differs_J35 hX hd0 hn ht hu hw hv hF x1 x2  m h
  · refine J_iload_n hX dX10_differs_4 rfl 1 rfl ?_
    refine J_aload_n hX dX10_differs_5 rfl 0 rfl ?_
    refine J_getR hX dX10_differs_6 fl_RX10_28 (ltn ltc_0 hn) lo_0 rfl (rt_0_2 _ _ _ _ _) ?_
    refine J_getI hX dX10_differs_9 fl_RX10_243 (ltn (lt_isTo_0 ht) hn) (lo_isTo_0 ht) rfl ?_
    refine J_icmp_ge hX 35 dX10_differs_12 (by decide) h (fun c h => ?_) (fun c h => ?_)
    · refine J_iload_n hX dX10_differs_15 rfl 2 rfl ?_
      refine J_iconst hX (1 : Int32) dX10_differs_16 ic_1 ?_
      refine J_icmp_lt hX 35 dX10_differs_17 (by decide) h (fun c h => ?_) (fun c h => ?_)
      · exact t_X10_differs_J35 hX hd0 hn ht hu hw hv hF x1 x2  m h
      · refine J_iload_n hX dX10_differs_20 rfl 2 rfl ?_
        refine J_aload_n hX dX10_differs_21 rfl 0 rfl ?_
        refine J_getR hX dX10_differs_22 fl_RX10_28 (ltn ltc_0 hn) lo_0 rfl (rt_0_2 _ _ _ _ _) ?_
        refine J_getI hX dX10_differs_25 fl_RX10_96 (ltn (lt_isTo_0 ht) hn) (lo_isTo_0 ht) rfl ?_
        refine J_icmp_ge hX 35 dX10_differs_28 (by decide) h (fun c h => ?_) (fun c h => ?_)
        · refine J_iconst hX (1 : Int32) dX10_differs_31 ic_1 ?_
          refine J_goto hX 36 dX10_differs_32 (by decide) ?_
          exact t_X10_differs_J36 hX hd0 hn ht hu hw hv hF x1 x2 (1 : Int32) m h
        · exact t_X10_differs_J35 hX hd0 hn ht hu hw hv hF x1 x2  m h
    · exact t_X10_differs_J35 hX hd0 hn ht hu hw hv hF x1 x2  m h
theorem c_X10_differs {G : GG} {l : Launch} {ρ : Nat → Nat} {n : Nat} {x : Option Nat} (hn : 126 ≤ n) {t : Nat} {u : Nat} {w : Nat} {v : Nat} (ht : isTo t) (hu : isTo u) (hw : isWk w) (hv : isWk v) {x1 : Int32} {x2 : Int32} {m : Mm} {rE : Int32} {mE : Mm} (h : f_X10_differs t u w v x1 x2 m = some (rE, mE)) : CT G l yX10_differs cX10_differs 4 (some .int) 2 0 0 ρ n (RT t u w v x) [.ref 0, .int x1, .int x2] m (some (.int rE)) (RT t u w v x) mE := ct_of_J (by decide) rfl (Nat.le_of_ble_eq_true rfl) (fun X hX e1 e2 e3 e4 hQ hr hl => t_X10_differs hX (Nat.le_refl _) hn ht hu hw hv ⟨by rw [hQ, e3, e4], hr, hl⟩ h)
def f_X11_setOf_L4 : Nat → Int32 → Int32 → Int32 →  Mm → Option (Int32 × Mm)
  | 0, _, _, _, _ => none
  | k + 1, v1, v2, v3, m => gd (inb v1 12) ((if v3 < (gI m 82 (ix v1)) then gd (inb (((5 : Int32) * v1) + v3) 60) (f_X11_setOf_L4 k v1 (v2 ||| ((1 : Int32) <<< ((gI m 83 (ix (((5 : Int32) * v1) + v3))) &&& 31))) (v3 + (1 : Int32)) m) else some (v2, m)))
theorem t_X11_setOf_L4 {X : XX} {G : GG} {ρ : Nat → Nat} {n t u w v : Nat} {x : Option Nat} {d : Nat} (hX : Ok X G ρ cX11_setOf 4 RX11 d) (hd0 : 0 ≤ d) (hn : 126 ≤ n) {rE : Int32} {mE : Mm} (hF : Fin' X G ρ n (some .int) (some (.int rE)) (RT t u w v x) mE) : ∀ (k : Nat) (v1 : Int32) (v2 : Int32) (v3 : Int32) (m : Mm), f_X11_setOf_L4 k v1 v2 v3 m = some (rE, mE) → J X G ρ n 4 4 [(0, .ref 78), (1, .int v1), (2, .int v2), (3, .int v3)] [] (RT t u w v x) m := by
  intro k
  induction k with
  | zero => intro _ _ _ _ h; rw [f_X11_setOf_L4] at h; cases h
  | succ k ih =>
    intro v1 v2 v3 m h
    rw [f_X11_setOf_L4] at h
    refine J_iload_n hX dX11_setOf_4 rfl 3 rfl ?_
    refine J_aload_n hX dX11_setOf_5 rfl 0 rfl ?_
    refine J_getR hX dX11_setOf_6 fl_RX11_19 (ltn ltc_78 hn) lo_78 rfl (rt_78_12 _ _ _ _ _) ?_
    refine J_iload_n hX dX11_setOf_9 rfl 1 rfl ?_
    refine J_iaload hX dX11_setOf_10 (ltn ltc_82 hn) lay_82 h (fun h => ?_)
    refine J_icmp_ge hX 35 dX11_setOf_11 (by decide) h (fun c h => ?_) (fun c h => ?_)
    · refine J_iload_n hX dX11_setOf_14 rfl 2 rfl ?_
      refine J_iconst hX (1 : Int32) dX11_setOf_15 ic_1 ?_
      refine J_aload_n hX dX11_setOf_16 rfl 0 rfl ?_
      refine J_getR hX dX11_setOf_17 fl_RX11_22 (ltn ltc_78 hn) lo_78 rfl (rt_78_13 _ _ _ _ _) ?_
      refine J_iconst hX (5 : Int32) dX11_setOf_20 ic_5 ?_
      refine J_iload_n hX dX11_setOf_21 rfl 1 rfl ?_
      refine J_imul hX dX11_setOf_22 ?_
      refine J_iload_n hX dX11_setOf_23 rfl 3 rfl ?_
      refine J_iadd hX dX11_setOf_24 ?_
      refine J_iaload hX dX11_setOf_25 (ltn ltc_83 hn) lay_83 h (fun h => ?_)
      refine J_ishl hX dX11_setOf_26 ?_
      refine J_ior hX dX11_setOf_27 ?_
      refine J_istore_n hX [(2, .int (v2 ||| ((1 : Int32) <<< ((gI m 83 (ix (((5 : Int32) * v1) + v3))) &&& 31)))), (0, .ref 78), (1, .int v1), (3, .int v3)] dX11_setOf_28 rfl (by decide) rfl ?_
      refine J_iinc hX (v3 + (1 : Int32)) [(3, .int (v3 + (1 : Int32))), (2, .int (v2 ||| ((1 : Int32) <<< ((gI m 83 (ix (((5 : Int32) * v1) + v3))) &&& 31)))), (0, .ref 78), (1, .int v1)] dX11_setOf_29 3 rfl (congrArg (fun z => v3 + z) ic_1) (by decide) rfl ?_
      refine J_goto hX 4 dX11_setOf_32 (by decide) ?_
      refine J_sub [(0, .ref 78), (1, .int v1), (2, .int (v2 ||| ((1 : Int32) <<< ((gI m 83 (ix (((5 : Int32) * v1) + v3))) &&& 31)))), (3, .int (v3 + (1 : Int32)))] [2, 3, 1, 0] rfl ?_
      exact ih v1 (v2 ||| ((1 : Int32) <<< ((gI m 83 (ix (((5 : Int32) * v1) + v3))) &&& 31))) (v3 + (1 : Int32)) m h
    · refine J_iload_n hX dX11_setOf_35 rfl 2 rfl ?_
      exact J_ireturn hX dX11_setOf_36 h hF rfl
def f_X11_setOf (x1 : Int32) (m : Mm) : Option (Int32 × Mm) := f_X11_setOf_L4 FU x1 (0 : Int32) (0 : Int32)  m
theorem t_X11_setOf {X : XX} {G : GG} {ρ : Nat → Nat} {n t u w v : Nat} {x : Option Nat} {d : Nat} (hX : Ok X G ρ cX11_setOf 4 RX11 d) (hd0 : 0 ≤ d) (hn : 126 ≤ n) {rE : Int32} {mE : Mm} (hF : Fin' X G ρ n (some .int) (some (.int rE)) (RT t u w v x) mE) {x1 : Int32} {m : Mm} (h : f_X11_setOf x1 m = some (rE, mE)) : J X G ρ n 4 0 [(0, .ref 78), (1, .int x1)] [] (RT t u w v x) m := by
  unfold f_X11_setOf at h
  refine J_iconst hX (0 : Int32) dX11_setOf_0 ic_0 ?_
  refine J_istore_n hX [(2, .int (0 : Int32)), (0, .ref 78), (1, .int x1)] dX11_setOf_1 rfl (by decide) rfl ?_
  refine J_iconst hX (0 : Int32) dX11_setOf_2 ic_0 ?_
  refine J_istore_n hX [(3, .int (0 : Int32)), (2, .int (0 : Int32)), (0, .ref 78), (1, .int x1)] dX11_setOf_3 rfl (by decide) rfl ?_
  refine J_sub [(0, .ref 78), (1, .int x1), (2, .int (0 : Int32)), (3, .int (0 : Int32))] [2, 3, 1, 0] rfl ?_
  exact t_X11_setOf_L4 hX hd0 hn hF FU x1 (0 : Int32) (0 : Int32)  m h
theorem c_X11_setOf {G : GG} {l : Launch} {ρ : Nat → Nat} {n t u w v : Nat} {x : Option Nat} (hn : 126 ≤ n) {x1 : Int32} {m : Mm} {rE : Int32} {mE : Mm} (h : f_X11_setOf x1 m = some (rE, mE)) : CT G l yX11_setOf cX11_setOf 4 (some .int) 0 0 0 ρ n (RT t u w v x) [.ref 78, .int x1] m (some (.int rE)) (RT t u w v x) mE := ct_of_J (by decide) rfl (Nat.le_of_ble_eq_true rfl) (fun X hX e1 e2 e3 e4 hQ hr hl => t_X11_setOf hX (Nat.le_refl _) hn ⟨by rw [hQ, e3, e4], hr, hl⟩ h)
def f_X11_differsBy_L5 : Nat → Int32 → Int32 → Int32 → Int32 →  Mm → Option (Int32 × Mm)
  | 0, _, _, _, _, _ => none
  | k + 1, v1, v2, v3, v4, m => (if v4 < (gI m 80 (ix (0 : Int32))) then bd2 (f_X11_isIn v1 v4 m) (fun r2 m1 => (if r2 = 0 then f_X11_differsBy_L5 k v1 v2 (v3 + (0 : Int32)) (v4 + (1 : Int32)) m1 else gd (nz (gI m1 80 (ix (0 : Int32)))) (bd2 (f_X11_isIn v1 ((v4 + v2) - (v4 + v2) / (gI m1 80 (ix (0 : Int32))) * (gI m1 80 (ix (0 : Int32)))) m1) (fun r4 m3 => (if r4 = 0 then f_X11_differsBy_L5 k v1 v2 (v3 + (0 : Int32)) (v4 + (1 : Int32)) m3 else f_X11_differsBy_L5 k v1 v2 (v3 + (1 : Int32)) (v4 + (1 : Int32)) m3))))) else some (v3, m))
theorem t_X11_differsBy_L5 {X : XX} {G : GG} {ρ : Nat → Nat} {n t u w v : Nat} {x : Option Nat} {d : Nat} (hX : Ok X G ρ cX11_differsBy 5 RX11 d) (hd0 : 1 ≤ d) (hn : 126 ≤ n) {rE : Int32} {mE : Mm} (hF : Fin' X G ρ n (some .int) (some (.int rE)) (RT t u w v x) mE) : ∀ (k : Nat) (v1 : Int32) (v2 : Int32) (v3 : Int32) (v4 : Int32) (m : Mm), f_X11_differsBy_L5 k v1 v2 v3 v4 m = some (rE, mE) → J X G ρ n 5 5 [(0, .ref 78), (1, .int v1), (2, .int v2), (3, .int v3), (4, .int v4)] [] (RT t u w v x) m := by
  intro k
  induction k with
  | zero => intro _ _ _ _ _ h; rw [f_X11_differsBy_L5] at h; cases h
  | succ k ih =>
    intro v1 v2 v3 v4 m h
    rw [f_X11_differsBy_L5] at h
    refine J_iload hX dX11_differsBy_5 4 rfl ?_
    refine J_aload_n hX dX11_differsBy_7 rfl 0 rfl ?_
    refine J_getR hX dX11_differsBy_8 fl_RX11_13 (ltn ltc_78 hn) lo_78 rfl (rt_78_10 _ _ _ _ _) ?_
    refine J_iconst hX (0 : Int32) dX11_differsBy_11 ic_0 ?_
    refine J_iaload0 hX dX11_differsBy_12 (ltn ltc_80 hn) lay_80 (by decide) ?_
    refine J_icmp_ge hX 57 dX11_differsBy_13 (by decide) h (fun c h => ?_) (fun c h => ?_)
    · refine J_iload_n hX dX11_differsBy_16 rfl 3 rfl ?_
      refine J_iload_n hX dX11_differsBy_17 rfl 1 rfl ?_
      refine J_iload hX dX11_differsBy_18 4 rfl ?_
      obtain ⟨r2, m1, h0, h⟩ := bd2_some h
      refine J_callSi (As := [.int v1, .int v4]) (st := [.int v3]) hX dX11_differsBy_20 cw_RX11_273 (by omega) (c_X11_isIn hn  h0) rfl rfl (Nat.le_of_ble_eq_true rfl) ?_
      clear h0
      refine J_if_eq hX 48 dX11_differsBy_23 (by decide) h (fun c h => ?_) (fun c h => ?_)
      · refine J_iconst hX (0 : Int32) dX11_differsBy_48 ic_0 ?_
        refine J_iadd hX dX11_differsBy_49 ?_
        refine J_istore_n hX [(3, .int (v3 + (0 : Int32))), (0, .ref 78), (1, .int v1), (2, .int v2), (4, .int v4)] dX11_differsBy_50 rfl (by decide) rfl ?_
        refine J_iinc hX (v4 + (1 : Int32)) [(4, .int (v4 + (1 : Int32))), (3, .int (v3 + (0 : Int32))), (0, .ref 78), (1, .int v1), (2, .int v2)] dX11_differsBy_51 4 rfl (congrArg (fun z => v4 + z) ic_1) (by decide) rfl ?_
        refine J_goto hX 5 dX11_differsBy_54 (by decide) ?_
        refine J_sub [(0, .ref 78), (1, .int v1), (2, .int v2), (3, .int (v3 + (0 : Int32))), (4, .int (v4 + (1 : Int32)))] [2, 3, 4, 1, 0] rfl ?_
        exact ih v1 v2 (v3 + (0 : Int32)) (v4 + (1 : Int32)) m1 h
      · refine J_iload_n hX dX11_differsBy_26 rfl 1 rfl ?_
        refine J_iload hX dX11_differsBy_27 4 rfl ?_
        refine J_iload_n hX dX11_differsBy_29 rfl 2 rfl ?_
        refine J_iadd hX dX11_differsBy_30 ?_
        refine J_aload_n hX dX11_differsBy_31 rfl 0 rfl ?_
        refine J_getR hX dX11_differsBy_32 fl_RX11_13 (ltn ltc_78 hn) lo_78 rfl (rt_78_10 _ _ _ _ _) ?_
        refine J_iconst hX (0 : Int32) dX11_differsBy_35 ic_0 ?_
        refine J_iaload0 hX dX11_differsBy_36 (ltn ltc_80 hn) lay_80 (by decide) ?_
        refine J_irem hX dX11_differsBy_37 h (fun h => ?_)
        obtain ⟨r4, m3, h0, h⟩ := bd2_some h
        refine J_callSi (As := [.int v1, .int ((v4 + v2) - (v4 + v2) / (gI m1 80 (ix (0 : Int32))) * (gI m1 80 (ix (0 : Int32))))]) (st := [.int v3]) hX dX11_differsBy_38 cw_RX11_273 (by omega) (c_X11_isIn hn  h0) rfl rfl (Nat.le_of_ble_eq_true rfl) ?_
        clear h0
        refine J_if_eq hX 48 dX11_differsBy_41 (by decide) h (fun c h => ?_) (fun c h => ?_)
        · refine J_iconst hX (0 : Int32) dX11_differsBy_48 ic_0 ?_
          refine J_iadd hX dX11_differsBy_49 ?_
          refine J_istore_n hX [(3, .int (v3 + (0 : Int32))), (0, .ref 78), (1, .int v1), (2, .int v2), (4, .int v4)] dX11_differsBy_50 rfl (by decide) rfl ?_
          refine J_iinc hX (v4 + (1 : Int32)) [(4, .int (v4 + (1 : Int32))), (3, .int (v3 + (0 : Int32))), (0, .ref 78), (1, .int v1), (2, .int v2)] dX11_differsBy_51 4 rfl (congrArg (fun z => v4 + z) ic_1) (by decide) rfl ?_
          refine J_goto hX 5 dX11_differsBy_54 (by decide) ?_
          refine J_sub [(0, .ref 78), (1, .int v1), (2, .int v2), (3, .int (v3 + (0 : Int32))), (4, .int (v4 + (1 : Int32)))] [2, 3, 4, 1, 0] rfl ?_
          exact ih v1 v2 (v3 + (0 : Int32)) (v4 + (1 : Int32)) m3 h
        · refine J_iconst hX (1 : Int32) dX11_differsBy_44 ic_1 ?_
          refine J_goto hX 49 dX11_differsBy_45 (by decide) ?_
          refine J_iadd hX dX11_differsBy_49 ?_
          refine J_istore_n hX [(3, .int (v3 + (1 : Int32))), (0, .ref 78), (1, .int v1), (2, .int v2), (4, .int v4)] dX11_differsBy_50 rfl (by decide) rfl ?_
          refine J_iinc hX (v4 + (1 : Int32)) [(4, .int (v4 + (1 : Int32))), (3, .int (v3 + (1 : Int32))), (0, .ref 78), (1, .int v1), (2, .int v2)] dX11_differsBy_51 4 rfl (congrArg (fun z => v4 + z) ic_1) (by decide) rfl ?_
          refine J_goto hX 5 dX11_differsBy_54 (by decide) ?_
          refine J_sub [(0, .ref 78), (1, .int v1), (2, .int v2), (3, .int (v3 + (1 : Int32))), (4, .int (v4 + (1 : Int32)))] [2, 3, 4, 1, 0] rfl ?_
          exact ih v1 v2 (v3 + (1 : Int32)) (v4 + (1 : Int32)) m3 h
    · refine J_iload_n hX dX11_differsBy_57 rfl 3 rfl ?_
      exact J_ireturn hX dX11_differsBy_58 h hF rfl
def f_X11_differsBy (x1 : Int32) (x2 : Int32) (m : Mm) : Option (Int32 × Mm) := f_X11_differsBy_L5 FU x1 x2 (0 : Int32) (0 : Int32)  m
theorem t_X11_differsBy {X : XX} {G : GG} {ρ : Nat → Nat} {n t u w v : Nat} {x : Option Nat} {d : Nat} (hX : Ok X G ρ cX11_differsBy 5 RX11 d) (hd0 : 1 ≤ d) (hn : 126 ≤ n) {rE : Int32} {mE : Mm} (hF : Fin' X G ρ n (some .int) (some (.int rE)) (RT t u w v x) mE) {x1 : Int32} {x2 : Int32} {m : Mm} (h : f_X11_differsBy x1 x2 m = some (rE, mE)) : J X G ρ n 5 0 [(0, .ref 78), (1, .int x1), (2, .int x2)] [] (RT t u w v x) m := by
  unfold f_X11_differsBy at h
  refine J_iconst hX (0 : Int32) dX11_differsBy_0 ic_0 ?_
  refine J_istore_n hX [(3, .int (0 : Int32)), (0, .ref 78), (1, .int x1), (2, .int x2)] dX11_differsBy_1 rfl (by decide) rfl ?_
  refine J_iconst hX (0 : Int32) dX11_differsBy_2 ic_0 ?_
  refine J_istore hX [(4, .int (0 : Int32)), (3, .int (0 : Int32)), (0, .ref 78), (1, .int x1), (2, .int x2)] dX11_differsBy_3 (by decide) rfl ?_
  refine J_sub [(0, .ref 78), (1, .int x1), (2, .int x2), (3, .int (0 : Int32)), (4, .int (0 : Int32))] [2, 3, 4, 1, 0] rfl ?_
  exact t_X11_differsBy_L5 hX hd0 hn hF FU x1 x2 (0 : Int32) (0 : Int32)  m h
theorem c_X11_differsBy {G : GG} {l : Launch} {ρ : Nat → Nat} {n t u w v : Nat} {x : Option Nat} (hn : 126 ≤ n) {x1 : Int32} {x2 : Int32} {m : Mm} {rE : Int32} {mE : Mm} (h : f_X11_differsBy x1 x2 m = some (rE, mE)) : CT G l yX11_differsBy cX11_differsBy 5 (some .int) 1 0 0 ρ n (RT t u w v x) [.ref 78, .int x1, .int x2] m (some (.int rE)) (RT t u w v x) mE := ct_of_J (by decide) rfl (Nat.le_of_ble_eq_true rfl) (fun X hX e1 e2 e3 e4 hQ hr hl => t_X11_differsBy hX (Nat.le_refl _) hn ⟨by rw [hQ, e3, e4], hr, hl⟩ h)
def f_X11_differs (x1 : Int32) (x2 : Int32) (m : Mm) : Option (Int32 × Mm) := stI m 78 0 (0 : Int32) (fun m1 => bd2 (f_X11_within x1 (0 : Int32) ((gI m1 80 (ix (1 : Int32))) - (1 : Int32)) m1) (fun r3 m2 => (if r3 = 0 then some ((-1 : Int32), m2) else bd2 (f_X11_within x2 (1 : Int32) ((gI m2 80 (ix (0 : Int32))) - (1 : Int32)) m2) (fun r5 m4 => (if r5 = 0 then some ((-1 : Int32), m4) else bd2 (f_X11_setOf x1 m4) (fun r7 m6 => bd2 (f_X11_differsBy r7 x2 m6) (fun r9 m8 => some (r9, m8))))))))
theorem t_X11_differs {X : XX} {G : GG} {ρ : Nat → Nat} {n t u w v : Nat} {x : Option Nat} {d : Nat} (hX : Ok X G ρ cX11_differs 3 RX11 d) (hd0 : 2 ≤ d) (hn : 126 ≤ n) {rE : Int32} {mE : Mm} (hF : Fin' X G ρ n (some .int) (some (.int rE)) (RT t u w v x) mE) {x1 : Int32} {x2 : Int32} {m : Mm} (h : f_X11_differs x1 x2 m = some (rE, mE)) : J X G ρ n 3 0 [(0, .ref 78), (1, .int x1), (2, .int x2)] [] (RT t u w v x) m := by
  unfold f_X11_differs at h
  refine J_aload_n hX dX11_differs_0 rfl 0 rfl ?_
  refine J_iconst hX (0 : Int32) dX11_differs_1 ic_0 ?_
  refine J_putI hX dX11_differs_2 pl_RX11_152 (ltn ltc_78 hn) lo_78 rfl rfl rfl h (fun m1 h => ?_)
  refine J_iload_n hX dX11_differs_5 rfl 1 rfl ?_
  refine J_iconst hX (0 : Int32) dX11_differs_6 ic_0 ?_
  refine J_aload_n hX dX11_differs_7 rfl 0 rfl ?_
  refine J_getR hX dX11_differs_8 fl_RX11_13 (ltn ltc_78 hn) lo_78 rfl (rt_78_10 _ _ _ _ _) ?_
  refine J_iconst hX (1 : Int32) dX11_differs_11 ic_1 ?_
  refine J_iaload0 hX dX11_differs_12 (ltn ltc_80 hn) lay_80 (by decide) ?_
  refine J_iconst hX (1 : Int32) dX11_differs_13 ic_1 ?_
  refine J_isub hX dX11_differs_14 ?_
  obtain ⟨r3, m2, h0, h⟩ := bd2_some h
  refine J_callSi (As := [.int x1, .int (0 : Int32), .int ((gI m1 80 (ix (1 : Int32))) - (1 : Int32))]) (st := []) hX dX11_differs_15 cw_RX11_239 (by omega) (c_X11_within hn  h0) rfl rfl (Nat.le_of_ble_eq_true rfl) ?_
  clear h0
  refine J_if_eq hX 50 dX11_differs_18 (by decide) h (fun c h => ?_) (fun c h => ?_)
  · refine J_iconst hX (-1 : Int32) dX11_differs_50 ic_m1 ?_
    exact J_ireturn hX dX11_differs_51 h hF rfl
  · refine J_iload_n hX dX11_differs_21 rfl 2 rfl ?_
    refine J_iconst hX (1 : Int32) dX11_differs_22 ic_1 ?_
    refine J_aload_n hX dX11_differs_23 rfl 0 rfl ?_
    refine J_getR hX dX11_differs_24 fl_RX11_13 (ltn ltc_78 hn) lo_78 rfl (rt_78_10 _ _ _ _ _) ?_
    refine J_iconst hX (0 : Int32) dX11_differs_27 ic_0 ?_
    refine J_iaload0 hX dX11_differs_28 (ltn ltc_80 hn) lay_80 (by decide) ?_
    refine J_iconst hX (1 : Int32) dX11_differs_29 ic_1 ?_
    refine J_isub hX dX11_differs_30 ?_
    obtain ⟨r5, m4, h0, h⟩ := bd2_some h
    refine J_callSi (As := [.int x2, .int (1 : Int32), .int ((gI m2 80 (ix (0 : Int32))) - (1 : Int32))]) (st := []) hX dX11_differs_31 cw_RX11_239 (by omega) (c_X11_within hn  h0) rfl rfl (Nat.le_of_ble_eq_true rfl) ?_
    clear h0
    refine J_if_eq hX 50 dX11_differs_34 (by decide) h (fun c h => ?_) (fun c h => ?_)
    · refine J_iconst hX (-1 : Int32) dX11_differs_50 ic_m1 ?_
      exact J_ireturn hX dX11_differs_51 h hF rfl
    · refine J_aload_n hX dX11_differs_37 rfl 0 rfl ?_
      refine J_aload_n hX dX11_differs_38 rfl 0 rfl ?_
      refine J_iload_n hX dX11_differs_39 rfl 1 rfl ?_
      obtain ⟨r7, m6, h0, h⟩ := bd2_some h
      refine J_callVi (As := [.int x1]) (st := [.ref 78]) hX dX11_differs_40 cw_RX11_442 (by omega) (c_X11_setOf hn  h0) (ltn ltc_78 hn) lo_78 (by decide) rfl rfl rfl (Nat.le_of_ble_eq_true rfl) ?_
      clear h0
      refine J_iload_n hX dX11_differs_43 rfl 2 rfl ?_
      obtain ⟨r9, m8, h0, h⟩ := bd2_some h
      refine J_callVi (As := [.int r7, .int x2]) (st := []) hX dX11_differs_44 cw_RX11_445 (by omega) (c_X11_differsBy hn  h0) (ltn ltc_78 hn) lo_78 (by decide) rfl rfl rfl (Nat.le_of_ble_eq_true rfl) ?_
      clear h0
      refine J_goto hX 51 dX11_differs_47 (by decide) ?_
      exact J_ireturn hX dX11_differs_51 h hF rfl
theorem c_X11_differs {G : GG} {l : Launch} {ρ : Nat → Nat} {n t u w v : Nat} {x : Option Nat} (hn : 126 ≤ n) {x1 : Int32} {x2 : Int32} {m : Mm} {rE : Int32} {mE : Mm} (h : f_X11_differs x1 x2 m = some (rE, mE)) : CT G l yX11_differs cX11_differs 3 (some .int) 2 0 0 ρ n (RT t u w v x) [.ref 78, .int x1, .int x2] m (some (.int rE)) (RT t u w v x) mE := ct_of_J (by decide) rfl (Nat.le_of_ble_eq_true rfl) (fun X hX e1 e2 e3 e4 hQ hr hl => t_X11_differs hX (Nat.le_refl _) hn ⟨by rw [hQ, e3, e4], hr, hl⟩ h)
def f_X10_family (t : Nat) (u : Nat) (w : Nat) (v : Nat) (m : Mm) : Option (Int32 × Mm) := bd2 (f_X1_ofFamily t m) (fun r2 m1 => some (r2, m1))
theorem t_X10_family {X : XX} {G : GG} {ρ : Nat → Nat} {n : Nat} {x : Option Nat} {d : Nat} {t : Nat} {u : Nat} {w : Nat} {v : Nat} (hX : Ok X G ρ cX10_family 1 RX10 d) (hd0 : 4 ≤ d) (hn : 126 ≤ n) (ht : isTo t) (hu : isTo u) (hw : isWk w) (hv : isWk v) {rE : Int32} {mE : Mm} (hF : Fin' X G ρ n (some .int) (some (.int rE)) (RT t u w v x) mE) {m : Mm} (h : f_X10_family t u w v m = some (rE, mE)) : J X G ρ n 1 0 [(0, .ref 0)] [] (RT t u w v x) m := by
  unfold f_X10_family at h
  refine J_aload_n hX dX10_family_0 rfl 0 rfl ?_
  refine J_getR hX dX10_family_1 fl_RX10_28 (ltn ltc_0 hn) lo_0 rfl (rt_0_2 _ _ _ _ _) ?_
  obtain ⟨r2, m1, h0, h⟩ := bd2_some h
  refine J_callSi (As := [.ref t]) (st := []) hX dX10_family_4 cw_RX10_255 (by omega) (c_X1_ofFamily hn ht h0) rfl rfl (Nat.le_of_ble_eq_true rfl) ?_
  clear h0
  exact J_ireturn hX dX10_family_7 h hF rfl
theorem c_X10_family {G : GG} {l : Launch} {ρ : Nat → Nat} {n : Nat} {x : Option Nat} (hn : 126 ≤ n) {t : Nat} {u : Nat} {w : Nat} {v : Nat} (ht : isTo t) (hu : isTo u) (hw : isWk w) (hv : isWk v) {m : Mm} {rE : Int32} {mE : Mm} (h : f_X10_family t u w v m = some (rE, mE)) : CT G l yX10_family cX10_family 1 (some .int) 4 0 0 ρ n (RT t u w v x) [.ref 0] m (some (.int rE)) (RT t u w v x) mE := ct_of_J (by decide) rfl (Nat.le_of_ble_eq_true rfl) (fun X hX e1 e2 e3 e4 hQ hr hl => t_X10_family hX (Nat.le_refl _) hn ht hu hw hv ⟨by rw [hQ, e3, e4], hr, hl⟩ h)
def f_X11_familyBy_L4 : Nat → Int32 → Int32 → Int32 →  Mm → Option (Int32 × Mm)
  | 0, _, _, _, _ => none
  | k + 1, v1, v2, v3, m => (if v3 < (gI m 80 (ix (1 : Int32))) then gd (inb v3 12) ((if (gI m 81 (ix v3)) = (1 : Int32) then bd2 (f_X11_setOf v3 m) (fun r2 m1 => bd2 (f_X11_differsBy r2 v1 m1) (fun r4 m3 => f_X11_familyBy_L4 k v1 (v2 + r4) (v3 + (1 : Int32)) m3)) else f_X11_familyBy_L4 k v1 (v2 + (0 : Int32)) (v3 + (1 : Int32)) m)) else some (v2, m))
theorem t_X11_familyBy_L4 {X : XX} {G : GG} {ρ : Nat → Nat} {n t u w v : Nat} {x : Option Nat} {d : Nat} (hX : Ok X G ρ cX11_familyBy 4 RX11 d) (hd0 : 2 ≤ d) (hn : 126 ≤ n) {rE : Int32} {mE : Mm} (hF : Fin' X G ρ n (some .int) (some (.int rE)) (RT t u w v x) mE) : ∀ (k : Nat) (v1 : Int32) (v2 : Int32) (v3 : Int32) (m : Mm), f_X11_familyBy_L4 k v1 v2 v3 m = some (rE, mE) → J X G ρ n 4 4 [(0, .ref 78), (1, .int v1), (2, .int v2), (3, .int v3)] [] (RT t u w v x) m := by
  intro k
  induction k with
  | zero => intro _ _ _ _ h; rw [f_X11_familyBy_L4] at h; cases h
  | succ k ih =>
    intro v1 v2 v3 m h
    rw [f_X11_familyBy_L4] at h
    refine J_iload_n hX dX11_familyBy_4 rfl 3 rfl ?_
    refine J_aload_n hX dX11_familyBy_5 rfl 0 rfl ?_
    refine J_getR hX dX11_familyBy_6 fl_RX11_13 (ltn ltc_78 hn) lo_78 rfl (rt_78_10 _ _ _ _ _) ?_
    refine J_iconst hX (1 : Int32) dX11_familyBy_9 ic_1 ?_
    refine J_iaload0 hX dX11_familyBy_10 (ltn ltc_80 hn) lay_80 (by decide) ?_
    refine J_icmp_ge hX 47 dX11_familyBy_11 (by decide) h (fun c h => ?_) (fun c h => ?_)
    · refine J_iload_n hX dX11_familyBy_14 rfl 2 rfl ?_
      refine J_aload_n hX dX11_familyBy_15 rfl 0 rfl ?_
      refine J_getR hX dX11_familyBy_16 fl_RX11_16 (ltn ltc_78 hn) lo_78 rfl (rt_78_11 _ _ _ _ _) ?_
      refine J_iload_n hX dX11_familyBy_19 rfl 3 rfl ?_
      refine J_iaload hX dX11_familyBy_20 (ltn ltc_81 hn) lay_81 h (fun h => ?_)
      refine J_iconst hX (1 : Int32) dX11_familyBy_21 ic_1 ?_
      refine J_icmp_ne hX 38 dX11_familyBy_22 (by decide) h (fun c h => ?_) (fun c h => ?_)
      · refine J_aload_n hX dX11_familyBy_25 rfl 0 rfl ?_
        refine J_aload_n hX dX11_familyBy_26 rfl 0 rfl ?_
        refine J_iload_n hX dX11_familyBy_27 rfl 3 rfl ?_
        obtain ⟨r2, m1, h0, h⟩ := bd2_some h
        refine J_callVi (As := [.int v3]) (st := [.ref 78, .int v2]) hX dX11_familyBy_28 cw_RX11_442 (by omega) (c_X11_setOf hn  h0) (ltn ltc_78 hn) lo_78 (by decide) rfl rfl rfl (Nat.le_of_ble_eq_true rfl) ?_
        clear h0
        refine J_iload_n hX dX11_familyBy_31 rfl 1 rfl ?_
        obtain ⟨r4, m3, h0, h⟩ := bd2_some h
        refine J_callVi (As := [.int r2, .int v1]) (st := [.int v2]) hX dX11_familyBy_32 cw_RX11_445 (by omega) (c_X11_differsBy hn  h0) (ltn ltc_78 hn) lo_78 (by decide) rfl rfl rfl (Nat.le_of_ble_eq_true rfl) ?_
        clear h0
        refine J_goto hX 39 dX11_familyBy_35 (by decide) ?_
        refine J_iadd hX dX11_familyBy_39 ?_
        refine J_istore_n hX [(2, .int (v2 + r4)), (0, .ref 78), (1, .int v1), (3, .int v3)] dX11_familyBy_40 rfl (by decide) rfl ?_
        refine J_iinc hX (v3 + (1 : Int32)) [(3, .int (v3 + (1 : Int32))), (2, .int (v2 + r4)), (0, .ref 78), (1, .int v1)] dX11_familyBy_41 3 rfl (congrArg (fun z => v3 + z) ic_1) (by decide) rfl ?_
        refine J_goto hX 4 dX11_familyBy_44 (by decide) ?_
        refine J_sub [(0, .ref 78), (1, .int v1), (2, .int (v2 + r4)), (3, .int (v3 + (1 : Int32)))] [2, 3, 1, 0] rfl ?_
        exact ih v1 (v2 + r4) (v3 + (1 : Int32)) m3 h
      · refine J_iconst hX (0 : Int32) dX11_familyBy_38 ic_0 ?_
        refine J_iadd hX dX11_familyBy_39 ?_
        refine J_istore_n hX [(2, .int (v2 + (0 : Int32))), (0, .ref 78), (1, .int v1), (3, .int v3)] dX11_familyBy_40 rfl (by decide) rfl ?_
        refine J_iinc hX (v3 + (1 : Int32)) [(3, .int (v3 + (1 : Int32))), (2, .int (v2 + (0 : Int32))), (0, .ref 78), (1, .int v1)] dX11_familyBy_41 3 rfl (congrArg (fun z => v3 + z) ic_1) (by decide) rfl ?_
        refine J_goto hX 4 dX11_familyBy_44 (by decide) ?_
        refine J_sub [(0, .ref 78), (1, .int v1), (2, .int (v2 + (0 : Int32))), (3, .int (v3 + (1 : Int32)))] [2, 3, 1, 0] rfl ?_
        exact ih v1 (v2 + (0 : Int32)) (v3 + (1 : Int32)) m h
    · refine J_iload_n hX dX11_familyBy_47 rfl 2 rfl ?_
      exact J_ireturn hX dX11_familyBy_48 h hF rfl
def f_X11_familyBy (x1 : Int32) (m : Mm) : Option (Int32 × Mm) := f_X11_familyBy_L4 FU x1 (0 : Int32) (0 : Int32)  m
theorem t_X11_familyBy {X : XX} {G : GG} {ρ : Nat → Nat} {n t u w v : Nat} {x : Option Nat} {d : Nat} (hX : Ok X G ρ cX11_familyBy 4 RX11 d) (hd0 : 2 ≤ d) (hn : 126 ≤ n) {rE : Int32} {mE : Mm} (hF : Fin' X G ρ n (some .int) (some (.int rE)) (RT t u w v x) mE) {x1 : Int32} {m : Mm} (h : f_X11_familyBy x1 m = some (rE, mE)) : J X G ρ n 4 0 [(0, .ref 78), (1, .int x1)] [] (RT t u w v x) m := by
  unfold f_X11_familyBy at h
  refine J_iconst hX (0 : Int32) dX11_familyBy_0 ic_0 ?_
  refine J_istore_n hX [(2, .int (0 : Int32)), (0, .ref 78), (1, .int x1)] dX11_familyBy_1 rfl (by decide) rfl ?_
  refine J_iconst hX (0 : Int32) dX11_familyBy_2 ic_0 ?_
  refine J_istore_n hX [(3, .int (0 : Int32)), (2, .int (0 : Int32)), (0, .ref 78), (1, .int x1)] dX11_familyBy_3 rfl (by decide) rfl ?_
  refine J_sub [(0, .ref 78), (1, .int x1), (2, .int (0 : Int32)), (3, .int (0 : Int32))] [2, 3, 1, 0] rfl ?_
  exact t_X11_familyBy_L4 hX hd0 hn hF FU x1 (0 : Int32) (0 : Int32)  m h
theorem c_X11_familyBy {G : GG} {l : Launch} {ρ : Nat → Nat} {n t u w v : Nat} {x : Option Nat} (hn : 126 ≤ n) {x1 : Int32} {m : Mm} {rE : Int32} {mE : Mm} (h : f_X11_familyBy x1 m = some (rE, mE)) : CT G l yX11_familyBy cX11_familyBy 4 (some .int) 2 0 0 ρ n (RT t u w v x) [.ref 78, .int x1] m (some (.int rE)) (RT t u w v x) mE := ct_of_J (by decide) rfl (Nat.le_of_ble_eq_true rfl) (fun X hX e1 e2 e3 e4 hQ hr hl => t_X11_familyBy hX (Nat.le_refl _) hn ⟨by rw [hQ, e3, e4], hr, hl⟩ h)
def f_X11_family_L51 : Nat → Int32 →  Mm → Option (Int32 × Mm)
  | 0, _, _ => none
  | k + 1, v2, m => (if v2 < (gI m 80 (ix (0 : Int32))) then bd2 (f_X11_familyBy v2 m) (fun r5 m4 => bd2 (f_X11_familyBy (1 : Int32) m4) (fun r7 m6 => (if r5 = r7 then f_X11_family_L51 k (v2 + (1 : Int32)) m6 else some ((-1 : Int32), m6)))) else bd2 (f_X11_familyBy (1 : Int32) m) (fun r3 m2 => some (r3, m2)))
theorem t_X11_family_L51 {X : XX} {G : GG} {ρ : Nat → Nat} {n t u w v : Nat} {x : Option Nat} {d : Nat} (hX : Ok X G ρ cX11_family 3 RX11 d) (hd0 : 3 ≤ d) (hn : 126 ≤ n) {rE : Int32} {mE : Mm} (hF : Fin' X G ρ n (some .int) (some (.int rE)) (RT t u w v x) mE) : ∀ (k : Nat) (v2 : Int32) (m : Mm), f_X11_family_L51 k v2 m = some (rE, mE) → J X G ρ n 3 51 [(0, .ref 78), (2, .int v2)] [] (RT t u w v x) m := by
  intro k
  induction k with
  | zero => intro _ _ h; rw [f_X11_family_L51] at h; cases h
  | succ k ih =>
    intro v2 m h
    rw [f_X11_family_L51] at h
    refine J_iload_n hX dX11_family_51 rfl 1 rfl ?_
    refine J_aload_n hX dX11_family_52 rfl 0 rfl ?_
    refine J_getR hX dX11_family_53 fl_RX11_13 (ltn ltc_78 hn) lo_78 rfl (rt_78_10 _ _ _ _ _) ?_
    refine J_iconst hX (0 : Int32) dX11_family_56 ic_0 ?_
    refine J_iaload0 hX dX11_family_57 (ltn ltc_80 hn) lay_80 (by decide) ?_
    refine J_icmp_ge hX 82 dX11_family_58 (by decide) h (fun c h => ?_) (fun c h => ?_)
    · refine J_aload_n hX dX11_family_61 rfl 0 rfl ?_
      refine J_iload_n hX dX11_family_62 rfl 1 rfl ?_
      obtain ⟨r5, m4, h0, h⟩ := bd2_some h
      refine J_callVi (As := [.int v2]) (st := []) hX dX11_family_63 cw_RX11_448 (by omega) (c_X11_familyBy hn  h0) (ltn ltc_78 hn) lo_78 (by decide) rfl rfl rfl (Nat.le_of_ble_eq_true rfl) ?_
      clear h0
      refine J_aload_n hX dX11_family_66 rfl 0 rfl ?_
      refine J_iconst hX (1 : Int32) dX11_family_67 ic_1 ?_
      obtain ⟨r7, m6, h0, h⟩ := bd2_some h
      refine J_callVi (As := [.int (1 : Int32)]) (st := [.int r5]) hX dX11_family_68 cw_RX11_448 (by omega) (c_X11_familyBy hn  h0) (ltn ltc_78 hn) lo_78 (by decide) rfl rfl rfl (Nat.le_of_ble_eq_true rfl) ?_
      clear h0
      refine J_icmp_eq hX 76 dX11_family_71 (by decide) h (fun c h => ?_) (fun c h => ?_)
      · refine J_iinc hX (v2 + (1 : Int32)) [(2, .int (v2 + (1 : Int32))), (0, .ref 78)] dX11_family_76 1 rfl (congrArg (fun z => v2 + z) ic_1) (by decide) rfl ?_
        refine J_goto hX 51 dX11_family_79 (by decide) ?_
        refine J_sub [(0, .ref 78), (2, .int (v2 + (1 : Int32)))] [1, 0] rfl ?_
        exact ih (v2 + (1 : Int32)) m6 h
      · refine J_iconst hX (-1 : Int32) dX11_family_74 ic_m1 ?_
        exact J_ireturn hX dX11_family_75 h hF rfl
    · refine J_aload_n hX dX11_family_82 rfl 0 rfl ?_
      refine J_iconst hX (1 : Int32) dX11_family_83 ic_1 ?_
      obtain ⟨r3, m2, h0, h⟩ := bd2_some h
      refine J_callVi (As := [.int (1 : Int32)]) (st := []) hX dX11_family_84 cw_RX11_448 (by omega) (c_X11_familyBy hn  h0) (ltn ltc_78 hn) lo_78 (by decide) rfl rfl rfl (Nat.le_of_ble_eq_true rfl) ?_
      clear h0
      exact J_ireturn hX dX11_family_87 h hF rfl
def f_X11_family_L9 : Nat → Int32 → Int32 →  Mm → Option (Int32 × Mm)
  | 0, _, _, _ => none
  | k + 1, v1, v2, m => (if v2 < (gI m 80 (ix (1 : Int32))) then gd (inb v2 12) ((if (gI m 81 (ix v2)) = (1 : Int32) then f_X11_family_L9 k (v1 ||| (1 : Int32)) (v2 + (1 : Int32)) m else f_X11_family_L9 k (v1 ||| (0 : Int32)) (v2 + (1 : Int32)) m)) else (if v1 = 0 then some ((-1 : Int32), m) else f_X11_family_L51 FU (2 : Int32)  m))
theorem t_X11_family_L9 {X : XX} {G : GG} {ρ : Nat → Nat} {n t u w v : Nat} {x : Option Nat} {d : Nat} (hX : Ok X G ρ cX11_family 3 RX11 d) (hd0 : 3 ≤ d) (hn : 126 ≤ n) {rE : Int32} {mE : Mm} (hF : Fin' X G ρ n (some .int) (some (.int rE)) (RT t u w v x) mE) : ∀ (k : Nat) (v1 : Int32) (v2 : Int32) (m : Mm), f_X11_family_L9 k v1 v2 m = some (rE, mE) → J X G ρ n 3 9 [(0, .ref 78), (1, .int v1), (2, .int v2)] [] (RT t u w v x) m := by
  intro k
  induction k with
  | zero => intro _ _ _ h; rw [f_X11_family_L9] at h; cases h
  | succ k ih =>
    intro v1 v2 m h
    rw [f_X11_family_L9] at h
    refine J_iload_n hX dX11_family_9 rfl 2 rfl ?_
    refine J_aload_n hX dX11_family_10 rfl 0 rfl ?_
    refine J_getR hX dX11_family_11 fl_RX11_13 (ltn ltc_78 hn) lo_78 rfl (rt_78_10 _ _ _ _ _) ?_
    refine J_iconst hX (1 : Int32) dX11_family_14 ic_1 ?_
    refine J_iaload0 hX dX11_family_15 (ltn ltc_80 hn) lay_80 (by decide) ?_
    refine J_icmp_ge hX 43 dX11_family_16 (by decide) h (fun c h => ?_) (fun c h => ?_)
    · refine J_iload_n hX dX11_family_19 rfl 1 rfl ?_
      refine J_aload_n hX dX11_family_20 rfl 0 rfl ?_
      refine J_getR hX dX11_family_21 fl_RX11_16 (ltn ltc_78 hn) lo_78 rfl (rt_78_11 _ _ _ _ _) ?_
      refine J_iload_n hX dX11_family_24 rfl 2 rfl ?_
      refine J_iaload hX dX11_family_25 (ltn ltc_81 hn) lay_81 h (fun h => ?_)
      refine J_iconst hX (1 : Int32) dX11_family_26 ic_1 ?_
      refine J_icmp_ne hX 34 dX11_family_27 (by decide) h (fun c h => ?_) (fun c h => ?_)
      · refine J_iconst hX (1 : Int32) dX11_family_30 ic_1 ?_
        refine J_goto hX 35 dX11_family_31 (by decide) ?_
        refine J_ior hX dX11_family_35 ?_
        refine J_istore_n hX [(1, .int (v1 ||| (1 : Int32))), (0, .ref 78), (2, .int v2)] dX11_family_36 rfl (by decide) rfl ?_
        refine J_iinc hX (v2 + (1 : Int32)) [(2, .int (v2 + (1 : Int32))), (1, .int (v1 ||| (1 : Int32))), (0, .ref 78)] dX11_family_37 2 rfl (congrArg (fun z => v2 + z) ic_1) (by decide) rfl ?_
        refine J_goto hX 9 dX11_family_40 (by decide) ?_
        refine J_sub [(0, .ref 78), (1, .int (v1 ||| (1 : Int32))), (2, .int (v2 + (1 : Int32)))] [2, 1, 0] rfl ?_
        exact ih (v1 ||| (1 : Int32)) (v2 + (1 : Int32)) m h
      · refine J_iconst hX (0 : Int32) dX11_family_34 ic_0 ?_
        refine J_ior hX dX11_family_35 ?_
        refine J_istore_n hX [(1, .int (v1 ||| (0 : Int32))), (0, .ref 78), (2, .int v2)] dX11_family_36 rfl (by decide) rfl ?_
        refine J_iinc hX (v2 + (1 : Int32)) [(2, .int (v2 + (1 : Int32))), (1, .int (v1 ||| (0 : Int32))), (0, .ref 78)] dX11_family_37 2 rfl (congrArg (fun z => v2 + z) ic_1) (by decide) rfl ?_
        refine J_goto hX 9 dX11_family_40 (by decide) ?_
        refine J_sub [(0, .ref 78), (1, .int (v1 ||| (0 : Int32))), (2, .int (v2 + (1 : Int32)))] [2, 1, 0] rfl ?_
        exact ih (v1 ||| (0 : Int32)) (v2 + (1 : Int32)) m h
    · refine J_iload_n hX dX11_family_43 rfl 1 rfl ?_
      refine J_if_ne hX 49 dX11_family_44 (by decide) h (fun c h => ?_) (fun c h => ?_)
      · refine J_iconst hX (-1 : Int32) dX11_family_47 ic_m1 ?_
        exact J_ireturn hX dX11_family_48 h hF rfl
      · refine J_iconst hX (2 : Int32) dX11_family_49 ic_2 ?_
        refine J_istore_n hX [(2, .int (2 : Int32)), (0, .ref 78), (1, .int v1)] dX11_family_50 rfl (by decide) rfl ?_
        refine J_sub [(0, .ref 78), (2, .int (2 : Int32))] [1, 0] rfl ?_
        exact t_X11_family_L51 hX hd0 hn hF FU (2 : Int32)  m h
def f_X11_family (m : Mm) : Option (Int32 × Mm) := stI m 78 0 (0 : Int32) (fun m1 => f_X11_family_L9 FU (0 : Int32) (0 : Int32)  m1)
theorem t_X11_family {X : XX} {G : GG} {ρ : Nat → Nat} {n t u w v : Nat} {x : Option Nat} {d : Nat} (hX : Ok X G ρ cX11_family 3 RX11 d) (hd0 : 3 ≤ d) (hn : 126 ≤ n) {rE : Int32} {mE : Mm} (hF : Fin' X G ρ n (some .int) (some (.int rE)) (RT t u w v x) mE) {m : Mm} (h : f_X11_family m = some (rE, mE)) : J X G ρ n 3 0 [(0, .ref 78)] [] (RT t u w v x) m := by
  unfold f_X11_family at h
  refine J_aload_n hX dX11_family_0 rfl 0 rfl ?_
  refine J_iconst hX (0 : Int32) dX11_family_1 ic_0 ?_
  refine J_putI hX dX11_family_2 pl_RX11_152 (ltn ltc_78 hn) lo_78 rfl rfl rfl h (fun m1 h => ?_)
  refine J_iconst hX (0 : Int32) dX11_family_5 ic_0 ?_
  refine J_istore_n hX [(1, .int (0 : Int32)), (0, .ref 78)] dX11_family_6 rfl (by decide) rfl ?_
  refine J_iconst hX (0 : Int32) dX11_family_7 ic_0 ?_
  refine J_istore_n hX [(2, .int (0 : Int32)), (1, .int (0 : Int32)), (0, .ref 78)] dX11_family_8 rfl (by decide) rfl ?_
  refine J_sub [(0, .ref 78), (1, .int (0 : Int32)), (2, .int (0 : Int32))] [2, 1, 0] rfl ?_
  exact t_X11_family_L9 hX hd0 hn hF FU (0 : Int32) (0 : Int32)  m1 h
theorem c_X11_family {G : GG} {l : Launch} {ρ : Nat → Nat} {n t u w v : Nat} {x : Option Nat} (hn : 126 ≤ n) {m : Mm} {rE : Int32} {mE : Mm} (h : f_X11_family m = some (rE, mE)) : CT G l yX11_family cX11_family 3 (some .int) 3 0 0 ρ n (RT t u w v x) [.ref 78] m (some (.int rE)) (RT t u w v x) mE := ct_of_J (by decide) rfl (Nat.le_of_ble_eq_true rfl) (fun X hX e1 e2 e3 e4 hQ hr hl => t_X11_family hX (Nat.le_refl _) hn ⟨by rw [hQ, e3, e4], hr, hl⟩ h)
def f_X1_areAlike_L9 : Nat → Int32 → Int32 → Int32 → Int32 →  Mm → Option (Int32 × Mm)
  | 0, _, _, _, _, _ => none
  | k + 1, v0, v1, v2, v3, m => (if v3 < v1 then bd2 (f_X1_ofSet v0 v3 v1 m) (fun r4 m3 => (if r4 = v2 then f_X1_areAlike_L9 k v0 v1 v2 (v3 + (1 : Int32)) m3 else some ((0 : Int32), m3))) else some ((1 : Int32), m))
theorem t_X1_areAlike_L9 {X : XX} {G : GG} {ρ : Nat → Nat} {n t u w v : Nat} {x : Option Nat} {d : Nat} (hX : Ok X G ρ cX1_areAlike 4 RX1 d) (hd0 : 2 ≤ d) (hn : 126 ≤ n) {rE : Int32} {mE : Mm} (hF : Fin' X G ρ n (some .boolean) (some (.int rE)) (RT t u w v x) mE) : ∀ (k : Nat) (v0 : Int32) (v1 : Int32) (v2 : Int32) (v3 : Int32) (m : Mm), f_X1_areAlike_L9 k v0 v1 v2 v3 m = some (rE, mE) → J X G ρ n 4 9 [(0, .int v0), (1, .int v1), (2, .int v2), (3, .int v3)] [] (RT t u w v x) m := by
  intro k
  induction k with
  | zero => intro _ _ _ _ _ h; rw [f_X1_areAlike_L9] at h; cases h
  | succ k ih =>
    intro v0 v1 v2 v3 m h
    rw [f_X1_areAlike_L9] at h
    refine J_iload_n hX dX1_areAlike_9 rfl 3 rfl ?_
    refine J_iload_n hX dX1_areAlike_10 rfl 1 rfl ?_
    refine J_icmp_ge hX 32 dX1_areAlike_11 (by decide) h (fun c h => ?_) (fun c h => ?_)
    · refine J_iload_n hX dX1_areAlike_14 rfl 0 rfl ?_
      refine J_iload_n hX dX1_areAlike_15 rfl 3 rfl ?_
      refine J_iload_n hX dX1_areAlike_16 rfl 1 rfl ?_
      obtain ⟨r4, m3, h0, h⟩ := bd2_some h
      refine J_callSi (As := [.int v0, .int v3, .int v1]) (st := []) hX dX1_areAlike_17 cw_RX1_43 (by omega) (c_X1_ofSet hn  h0) rfl rfl (Nat.le_of_ble_eq_true rfl) ?_
      clear h0
      refine J_iload_n hX dX1_areAlike_20 rfl 2 rfl ?_
      refine J_icmp_eq hX 26 dX1_areAlike_21 (by decide) h (fun c h => ?_) (fun c h => ?_)
      · refine J_iinc hX (v3 + (1 : Int32)) [(3, .int (v3 + (1 : Int32))), (0, .int v0), (1, .int v1), (2, .int v2)] dX1_areAlike_26 3 rfl (congrArg (fun z => v3 + z) ic_1) (by decide) rfl ?_
        refine J_goto hX 9 dX1_areAlike_29 (by decide) ?_
        refine J_sub [(0, .int v0), (1, .int v1), (2, .int v2), (3, .int (v3 + (1 : Int32)))] [1, 2, 3, 0] rfl ?_
        exact ih v0 v1 v2 (v3 + (1 : Int32)) m3 h
      · refine J_iconst hX (0 : Int32) dX1_areAlike_24 ic_0 ?_
        exact J_ireturn hX dX1_areAlike_25 h hF narrow_b0
    · refine J_iconst hX (1 : Int32) dX1_areAlike_32 ic_1 ?_
      exact J_ireturn hX dX1_areAlike_33 h hF narrow_b1
def f_X1_areAlike (x0 : Int32) (x1 : Int32) (m : Mm) : Option (Int32 × Mm) := bd2 (f_X1_ofSet x0 (1 : Int32) x1 m) (fun r2 m1 => f_X1_areAlike_L9 FU x0 x1 r2 (2 : Int32)  m1)
theorem t_X1_areAlike {X : XX} {G : GG} {ρ : Nat → Nat} {n t u w v : Nat} {x : Option Nat} {d : Nat} (hX : Ok X G ρ cX1_areAlike 4 RX1 d) (hd0 : 2 ≤ d) (hn : 126 ≤ n) {rE : Int32} {mE : Mm} (hF : Fin' X G ρ n (some .boolean) (some (.int rE)) (RT t u w v x) mE) {x0 : Int32} {x1 : Int32} {m : Mm} (h : f_X1_areAlike x0 x1 m = some (rE, mE)) : J X G ρ n 4 0 [(0, .int x0), (1, .int x1)] [] (RT t u w v x) m := by
  unfold f_X1_areAlike at h
  refine J_iload_n hX dX1_areAlike_0 rfl 0 rfl ?_
  refine J_iconst hX (1 : Int32) dX1_areAlike_1 ic_1 ?_
  refine J_iload_n hX dX1_areAlike_2 rfl 1 rfl ?_
  obtain ⟨r2, m1, h0, h⟩ := bd2_some h
  refine J_callSi (As := [.int x0, .int (1 : Int32), .int x1]) (st := []) hX dX1_areAlike_3 cw_RX1_43 (by omega) (c_X1_ofSet hn  h0) rfl rfl (Nat.le_of_ble_eq_true rfl) ?_
  clear h0
  refine J_istore_n hX [(2, .int r2), (0, .int x0), (1, .int x1)] dX1_areAlike_6 rfl (by decide) rfl ?_
  refine J_iconst hX (2 : Int32) dX1_areAlike_7 ic_2 ?_
  refine J_istore_n hX [(3, .int (2 : Int32)), (2, .int r2), (0, .int x0), (1, .int x1)] dX1_areAlike_8 rfl (by decide) rfl ?_
  refine J_sub [(0, .int x0), (1, .int x1), (2, .int r2), (3, .int (2 : Int32))] [2, 3, 1, 0] rfl ?_
  exact t_X1_areAlike_L9 hX hd0 hn hF FU x0 x1 r2 (2 : Int32)  m1 h
theorem c_X1_areAlike {G : GG} {l : Launch} {ρ : Nat → Nat} {n t u w v : Nat} {x : Option Nat} (hn : 126 ≤ n) {x0 : Int32} {x1 : Int32} {m : Mm} {rE : Int32} {mE : Mm} (h : f_X1_areAlike x0 x1 m = some (rE, mE)) : CT G l yX1_areAlike cX1_areAlike 4 (some .boolean) 2 0 0 ρ n (RT t u w v x) [.int x0, .int x1] m (some (.int rE)) (RT t u w v x) mE := ct_of_J (by decide) rfl (Nat.le_of_ble_eq_true rfl) (fun X hX e1 e2 e3 e4 hQ hr hl => t_X1_areAlike hX (Nat.le_refl _) hn ⟨by rw [hQ, e3, e4], hr, hl⟩ h)
def f_X1_firstAlikeFrom_L21 (F_X1_firstAlikeFrom : Int32 → Int32 → Int32 → Int32 → Mm → Option (Int32 × Mm)) : Nat → Int32 → Int32 → Int32 → Int32 →  Mm → Option (Int32 × Mm)
  | 0, _, _, _, _, _ => none
  | k + 1, v0, v2, v3, v4, m => (if v3 < (v4 + v2) then some ((-1 : Int32), m) else bd2 (F_X1_firstAlikeFrom (v0 ||| ((1 : Int32) <<< (v4 &&& 31))) (v4 + (1 : Int32)) (v2 - (1 : Int32)) v3 m) (fun r2 m1 => (if r2 = (-1 : Int32) then f_X1_firstAlikeFrom_L21 F_X1_firstAlikeFrom k v0 v2 v3 (v4 + (1 : Int32)) m1 else some (r2, m1))))
theorem t_X1_firstAlikeFrom_L21 {X : XX} {G : GG} {ρ : Nat → Nat} {n t u w v : Nat} {x : Option Nat} {d : Nat} {F_X1_firstAlikeFrom : Int32 → Int32 → Int32 → Int32 → Mm → Option (Int32 × Mm)} (hX : Ok X G ρ cX1_firstAlikeFrom 6 RX1 d) (hd0 : 3 ≤ d) (hn : 126 ≤ n) {dF : Nat} (hdF : dF + 1 ≤ d) (hF_X1_firstAlikeFrom : ∀ {y0 : Int32} {y1 : Int32} {y2 : Int32} {y3 : Int32} {m : Mm} {r : Int32} {mE : Mm}, F_X1_firstAlikeFrom y0 y1 y2 y3 m = some (r, mE) → CT G X.1.2.1 yX1_firstAlikeFrom cX1_firstAlikeFrom 6 (some .int) dF 0 0 ρ n (RT t u w v x) [.int y0, .int y1, .int y2, .int y3] m (some (.int r)) (RT t u w v x) mE) {rE : Int32} {mE : Mm} (hF : Fin' X G ρ n (some .int) (some (.int rE)) (RT t u w v x) mE) : ∀ (k : Nat) (v0 : Int32) (v2 : Int32) (v3 : Int32) (v4 : Int32) (m : Mm), f_X1_firstAlikeFrom_L21 F_X1_firstAlikeFrom k v0 v2 v3 v4 m = some (rE, mE) → J X G ρ n 6 21 [(0, .int v0), (2, .int v2), (3, .int v3), (4, .int v4)] [] (RT t u w v x) m := by
  intro k
  induction k with
  | zero => intro _ _ _ _ _ h; rw [f_X1_firstAlikeFrom_L21] at h; cases h
  | succ k ih =>
    intro v0 v2 v3 v4 m h
    rw [f_X1_firstAlikeFrom_L21] at h
    refine J_iload hX dX1_firstAlikeFrom_21 3 rfl ?_
    refine J_iload_n hX dX1_firstAlikeFrom_23 rfl 1 rfl ?_
    refine J_iadd hX dX1_firstAlikeFrom_24 ?_
    refine J_iload_n hX dX1_firstAlikeFrom_25 rfl 2 rfl ?_
    refine J_icmp_gt hX 63 dX1_firstAlikeFrom_26 (by decide) h (fun c h => ?_) (fun c h => ?_)
    · refine J_iconst hX (-1 : Int32) dX1_firstAlikeFrom_63 ic_m1 ?_
      exact J_ireturn hX dX1_firstAlikeFrom_64 h hF rfl
    · refine J_iload_n hX dX1_firstAlikeFrom_29 rfl 0 rfl ?_
      refine J_iconst hX (1 : Int32) dX1_firstAlikeFrom_30 ic_1 ?_
      refine J_iload hX dX1_firstAlikeFrom_31 3 rfl ?_
      refine J_ishl hX dX1_firstAlikeFrom_33 ?_
      refine J_ior hX dX1_firstAlikeFrom_34 ?_
      refine J_iload hX dX1_firstAlikeFrom_35 3 rfl ?_
      refine J_iconst hX (1 : Int32) dX1_firstAlikeFrom_37 ic_1 ?_
      refine J_iadd hX dX1_firstAlikeFrom_38 ?_
      refine J_iload_n hX dX1_firstAlikeFrom_39 rfl 1 rfl ?_
      refine J_iconst hX (1 : Int32) dX1_firstAlikeFrom_40 ic_1 ?_
      refine J_isub hX dX1_firstAlikeFrom_41 ?_
      refine J_iload_n hX dX1_firstAlikeFrom_42 rfl 2 rfl ?_
      obtain ⟨r2, m1, h0, h⟩ := bd2_some h
      refine J_callSi (As := [.int (v0 ||| ((1 : Int32) <<< (v4 &&& 31))), .int (v4 + (1 : Int32)), .int (v2 - (1 : Int32)), .int v3]) (st := []) hX dX1_firstAlikeFrom_43 cw_RX1_47 (by omega) (hF_X1_firstAlikeFrom h0) rfl rfl (Nat.le_of_ble_eq_true rfl) ?_
      clear h0
      refine J_istore hX [(5, .int r2), (0, .int v0), (2, .int v2), (3, .int v3), (4, .int v4)] dX1_firstAlikeFrom_46 (by decide) rfl ?_
      refine J_iload hX dX1_firstAlikeFrom_48 0 rfl ?_
      refine J_iconst hX (-1 : Int32) dX1_firstAlikeFrom_50 ic_m1 ?_
      refine J_icmp_eq hX 57 dX1_firstAlikeFrom_51 (by decide) h (fun c h => ?_) (fun c h => ?_)
      · refine J_iinc hX (v4 + (1 : Int32)) [(4, .int (v4 + (1 : Int32))), (5, .int r2), (0, .int v0), (2, .int v2), (3, .int v3)] dX1_firstAlikeFrom_57 4 rfl (congrArg (fun z => v4 + z) ic_1) (by decide) rfl ?_
        refine J_goto hX 21 dX1_firstAlikeFrom_60 (by decide) ?_
        refine J_sub [(0, .int v0), (2, .int v2), (3, .int v3), (4, .int (v4 + (1 : Int32)))] [2, 3, 4, 0] rfl ?_
        exact ih v0 v2 v3 (v4 + (1 : Int32)) m1 h
      · refine J_iload hX dX1_firstAlikeFrom_54 0 rfl ?_
        exact J_ireturn hX dX1_firstAlikeFrom_56 h hF rfl
def f_X1_firstAlikeFrom (F_X1_firstAlikeFrom : Int32 → Int32 → Int32 → Int32 → Mm → Option (Int32 × Mm)) (x0 : Int32) (x1 : Int32) (x2 : Int32) (x3 : Int32) (m : Mm) : Option (Int32 × Mm) := (if 0 < x2 then f_X1_firstAlikeFrom_L21 F_X1_firstAlikeFrom FU x0 x2 x3 x1  m else bd2 (f_X1_areAlike x0 x3 m) (fun r4 m3 => (if r4 = 0 then some ((-1 : Int32), m3) else some (x0, m3))))
theorem t_X1_firstAlikeFrom {X : XX} {G : GG} {ρ : Nat → Nat} {n t u w v : Nat} {x : Option Nat} {d : Nat} {F_X1_firstAlikeFrom : Int32 → Int32 → Int32 → Int32 → Mm → Option (Int32 × Mm)} (hX : Ok X G ρ cX1_firstAlikeFrom 6 RX1 d) (hd0 : 3 ≤ d) (hn : 126 ≤ n) {dF : Nat} (hdF : dF + 1 ≤ d) (hF_X1_firstAlikeFrom : ∀ {y0 : Int32} {y1 : Int32} {y2 : Int32} {y3 : Int32} {m : Mm} {r : Int32} {mE : Mm}, F_X1_firstAlikeFrom y0 y1 y2 y3 m = some (r, mE) → CT G X.1.2.1 yX1_firstAlikeFrom cX1_firstAlikeFrom 6 (some .int) dF 0 0 ρ n (RT t u w v x) [.int y0, .int y1, .int y2, .int y3] m (some (.int r)) (RT t u w v x) mE) {rE : Int32} {mE : Mm} (hF : Fin' X G ρ n (some .int) (some (.int rE)) (RT t u w v x) mE) {x0 : Int32} {x1 : Int32} {x2 : Int32} {x3 : Int32} {m : Mm} (h : f_X1_firstAlikeFrom F_X1_firstAlikeFrom x0 x1 x2 x3 m = some (rE, mE)) : J X G ρ n 6 0 [(0, .int x0), (1, .int x1), (2, .int x2), (3, .int x3)] [] (RT t u w v x) m := by
  unfold f_X1_firstAlikeFrom at h
  refine J_iload_n hX dX1_firstAlikeFrom_0 rfl 2 rfl ?_
  refine J_if_gt hX 18 dX1_firstAlikeFrom_1 (by decide) h (fun c h => ?_) (fun c h => ?_)
  · refine J_iload_n hX dX1_firstAlikeFrom_18 rfl 1 rfl ?_
    refine J_istore hX [(4, .int x1), (0, .int x0), (1, .int x1), (2, .int x2), (3, .int x3)] dX1_firstAlikeFrom_19 (by decide) rfl ?_
    refine J_sub [(0, .int x0), (2, .int x2), (3, .int x3), (4, .int x1)] [1, 3, 4, 0] rfl ?_
    exact t_X1_firstAlikeFrom_L21 hX hd0 hn hdF hF_X1_firstAlikeFrom hF FU x0 x2 x3 x1  m h
  · refine J_iload_n hX dX1_firstAlikeFrom_4 rfl 0 rfl ?_
    refine J_iload_n hX dX1_firstAlikeFrom_5 rfl 3 rfl ?_
    obtain ⟨r4, m3, h0, h⟩ := bd2_some h
    refine J_callSi (As := [.int x0, .int x3]) (st := []) hX dX1_firstAlikeFrom_6 cw_RX1_51 (by omega) (c_X1_areAlike hn  h0) rfl rfl (Nat.le_of_ble_eq_true rfl) ?_
    clear h0
    refine J_if_eq hX 16 dX1_firstAlikeFrom_9 (by decide) h (fun c h => ?_) (fun c h => ?_)
    · refine J_iconst hX (-1 : Int32) dX1_firstAlikeFrom_16 ic_m1 ?_
      exact J_ireturn hX dX1_firstAlikeFrom_17 h hF rfl
    · refine J_iload_n hX dX1_firstAlikeFrom_12 rfl 0 rfl ?_
      refine J_goto hX 17 dX1_firstAlikeFrom_13 (by decide) ?_
      exact J_ireturn hX dX1_firstAlikeFrom_17 h hF rfl
def fr_X1_firstAlikeFrom : Nat → Int32 → Int32 → Int32 → Int32 → Mm → Option (Int32 × Mm)
  | 0 => fun _ _ _ _ _ => none
  | k + 1 => f_X1_firstAlikeFrom (fr_X1_firstAlikeFrom k)
theorem cfr_X1_firstAlikeFrom {G : GG} {l : Launch} {ρ : Nat → Nat} {n t u w v : Nat} {x : Option Nat} (hn : 126 ≤ n) : ∀ k : Nat, (∀ {y0 : Int32} {y1 : Int32} {y2 : Int32} {y3 : Int32} {m : Mm} {r : Int32} {mE : Mm}, (fr_X1_firstAlikeFrom k) y0 y1 y2 y3 m = some (r, mE) → CT G l yX1_firstAlikeFrom cX1_firstAlikeFrom 6 (some .int) (3 + k) 0 0 ρ n (RT t u w v x) [.int y0, .int y1, .int y2, .int y3] m (some (.int r)) (RT t u w v x) mE) := by
  intro k
  induction k with
  | zero => exact fun h => by cases h
  | succ k ih => exact fun h => ct_of_J (by decide) rfl (Nat.le_of_ble_eq_true rfl) (fun X hX e1 e2 e3 e4 hQ hr hl => t_X1_firstAlikeFrom hX (by omega) hn (by show 3 + k + 1 ≤ 3 + (k + 1); omega) (fun h => by rw [e2]; exact ih h) ⟨by rw [hQ, e3, e4], hr, hl⟩ h)
def f_X1_firstAlikeFrom_r : Int32 → Int32 → Int32 → Int32 → Mm → Option (Int32 × Mm) := fr_X1_firstAlikeFrom 8
theorem c_X1_firstAlikeFrom_r {G : GG} {l : Launch} {ρ : Nat → Nat} {n t u w v : Nat} {x : Option Nat} (hn : 126 ≤ n) : ∀ {y0 : Int32} {y1 : Int32} {y2 : Int32} {y3 : Int32} {m : Mm} {r : Int32} {mE : Mm}, (f_X1_firstAlikeFrom_r) y0 y1 y2 y3 m = some (r, mE) → CT G l yX1_firstAlikeFrom cX1_firstAlikeFrom 6 (some .int) 11 0 0 ρ n (RT t u w v x) [.int y0, .int y1, .int y2, .int y3] m (some (.int r)) (RT t u w v x) mE := fun h => cfr_X1_firstAlikeFrom hn 8 h
def f_X1_firstAlike (x0 : Int32) (x1 : Int32) (m : Mm) : Option (Int32 × Mm) := (if x1 < (2 : Int32) then some ((-1 : Int32), m) else (if x1 < x0 then some ((-1 : Int32), m) else bd2 (f_X1_firstAlikeFrom_r  (1 : Int32) (1 : Int32) (x0 - (1 : Int32)) x1 m) (fun r2 m1 => some (r2, m1))))
theorem t_X1_firstAlike {X : XX} {G : GG} {ρ : Nat → Nat} {n t u w v : Nat} {x : Option Nat} {d : Nat} (hX : Ok X G ρ cX1_firstAlike 2 RX1 d) (hd0 : 12 ≤ d) (hn : 126 ≤ n) {rE : Int32} {mE : Mm} (hF : Fin' X G ρ n (some .int) (some (.int rE)) (RT t u w v x) mE) {x0 : Int32} {x1 : Int32} {m : Mm} (h : f_X1_firstAlike x0 x1 m = some (rE, mE)) : J X G ρ n 2 0 [(0, .int x0), (1, .int x1)] [] (RT t u w v x) m := by
  unfold f_X1_firstAlike at h
  refine J_iload_n hX dX1_firstAlike_0 rfl 1 rfl ?_
  refine J_iconst hX (2 : Int32) dX1_firstAlike_1 ic_2 ?_
  refine J_icmp_lt hX 10 dX1_firstAlike_2 (by decide) h (fun c h => ?_) (fun c h => ?_)
  · refine J_iconst hX (-1 : Int32) dX1_firstAlike_10 ic_m1 ?_
    refine J_goto hX 23 dX1_firstAlike_11 (by decide) ?_
    exact J_ireturn hX dX1_firstAlike_23 h hF rfl
  · refine J_iload_n hX dX1_firstAlike_5 rfl 0 rfl ?_
    refine J_iload_n hX dX1_firstAlike_6 rfl 1 rfl ?_
    refine J_icmp_le hX 14 dX1_firstAlike_7 (by decide) h (fun c h => ?_) (fun c h => ?_)
    · refine J_iconst hX (-1 : Int32) dX1_firstAlike_10 ic_m1 ?_
      refine J_goto hX 23 dX1_firstAlike_11 (by decide) ?_
      exact J_ireturn hX dX1_firstAlike_23 h hF rfl
    · refine J_iconst hX (1 : Int32) dX1_firstAlike_14 ic_1 ?_
      refine J_iconst hX (1 : Int32) dX1_firstAlike_15 ic_1 ?_
      refine J_iload_n hX dX1_firstAlike_16 rfl 0 rfl ?_
      refine J_iconst hX (1 : Int32) dX1_firstAlike_17 ic_1 ?_
      refine J_isub hX dX1_firstAlike_18 ?_
      refine J_iload_n hX dX1_firstAlike_19 rfl 1 rfl ?_
      obtain ⟨r2, m1, h0, h⟩ := bd2_some h
      refine J_callSi (As := [.int (1 : Int32), .int (1 : Int32), .int (x0 - (1 : Int32)), .int x1]) (st := []) hX dX1_firstAlike_20 cw_RX1_47 (by omega) (c_X1_firstAlikeFrom_r hn  h0) rfl rfl (Nat.le_of_ble_eq_true rfl) ?_
      clear h0
      exact J_ireturn hX dX1_firstAlike_23 h hF rfl
theorem c_X1_firstAlike {G : GG} {l : Launch} {ρ : Nat → Nat} {n t u w v : Nat} {x : Option Nat} (hn : 126 ≤ n) {x0 : Int32} {x1 : Int32} {m : Mm} {rE : Int32} {mE : Mm} (h : f_X1_firstAlike x0 x1 m = some (rE, mE)) : CT G l yX1_firstAlike cX1_firstAlike 2 (some .int) 12 0 0 ρ n (RT t u w v x) [.int x0, .int x1] m (some (.int rE)) (RT t u w v x) mE := ct_of_J (by decide) rfl (Nat.le_of_ble_eq_true rfl) (fun X hX e1 e2 e3 e4 hQ hr hl => t_X1_firstAlike hX (Nat.le_refl _) hn ⟨by rw [hQ, e3, e4], hr, hl⟩ h)
