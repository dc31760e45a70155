def f_X10_seek (t : Nat) (u : Nat) (w : Nat) (v : Nat) (x1 : Int32) (m : Mm) : Option (Int32 × Mm) := (if x1 < (2 : Int32) then some ((-1 : Int32), m) else (if (5 : Int32) < x1 then some ((-1 : Int32), m) else bd2 (f_X1_firstAlike x1 (gI m t 0) m) (fun r2 m1 => some (r2, m1))))
theorem t_X10_seek {X : XX} {G : GG} {ρ : Nat → Nat} {n : Nat} {x : Option Nat} {d : Nat} {t : Nat} {u : Nat} {w : Nat} {v : Nat} (hX : Ok X G ρ cX10_seek 2 RX10 d) (hd0 : 13 ≤ d) (hn : 126 ≤ n) (ht : isTo t) (hu : isTo u) (hw : isWk w) (hv : isWk v) {rE : Int32} {mE : Mm} (hF : Fin' X G ρ n (some .int) (some (.int rE)) (RT t u w v x) mE) {x1 : Int32} {m : Mm} (h : f_X10_seek t u w v x1 m = some (rE, mE)) : J X G ρ n 2 0 [(0, .ref 0), (1, .int x1)] [] (RT t u w v x) m := by
  unfold f_X10_seek at h
  refine J_iload_n hX dX10_seek_0 rfl 1 rfl ?_
  refine J_iconst hX (2 : Int32) dX10_seek_1 ic_2 ?_
  refine J_icmp_lt hX 24 dX10_seek_2 (by decide) h (fun c h => ?_) (fun c h => ?_)
  · refine J_iconst hX (-1 : Int32) dX10_seek_24 ic_m1 ?_
    exact J_ireturn hX dX10_seek_25 h hF rfl
  · refine J_iload_n hX dX10_seek_5 rfl 1 rfl ?_
    refine J_iconst hX (5 : Int32) dX10_seek_6 ic_5 ?_
    refine J_icmp_gt hX 24 dX10_seek_7 (by decide) h (fun c h => ?_) (fun c h => ?_)
    · refine J_iconst hX (-1 : Int32) dX10_seek_24 ic_m1 ?_
      exact J_ireturn hX dX10_seek_25 h hF rfl
    · refine J_iload_n hX dX10_seek_10 rfl 1 rfl ?_
      refine J_aload_n hX dX10_seek_11 rfl 0 rfl ?_
      refine J_getR hX dX10_seek_12 fl_RX10_28 (ltn ltc_0 hn) lo_0 rfl (rt_0_2 _ _ _ _ _) ?_
      refine J_getI hX dX10_seek_15 fl_RX10_96 (ltn (lt_isTo_0 ht) hn) (lo_isTo_0 ht) rfl ?_
      obtain ⟨r2, m1, h0, h⟩ := bd2_some h
      refine J_callSi (As := [.int x1, .int (gI m t 0)]) (st := []) hX dX10_seek_18 cw_RX10_258 (by omega) (c_X1_firstAlike hn  h0) rfl rfl (Nat.le_of_ble_eq_true rfl) ?_
      clear h0
      refine J_goto hX 25 dX10_seek_21 (by decide) ?_
      exact J_ireturn hX dX10_seek_25 h hF rfl
theorem c_X10_seek {G : GG} {l : Launch} {ρ : Nat → Nat} {n : Nat} {x : Option Nat} (hn : 126 ≤ n) {t : Nat} {u : Nat} {w : Nat} {v : Nat} (ht : isTo t) (hu : isTo u) (hw : isWk w) (hv : isWk v) {x1 : Int32} {m : Mm} {rE : Int32} {mE : Mm} (h : f_X10_seek t u w v x1 m = some (rE, mE)) : CT G l yX10_seek cX10_seek 2 (some .int) 13 0 0 ρ n (RT t u w v x) [.ref 0, .int x1] m (some (.int rE)) (RT t u w v x) mE := ct_of_J (by decide) rfl (Nat.le_of_ble_eq_true rfl) (fun X hX e1 e2 e3 e4 hQ hr hl => t_X10_seek hX (Nat.le_refl _) hn ht hu hw hv ⟨by rw [hQ, e3, e4], hr, hl⟩ h)
def f_X11_isAlike_L2 : Nat → Int32 → Int32 →  Mm → Option (Int32 × Mm)
  | 0, _, _, _ => none
  | k + 1, v1, v2, m => (if v2 < (gI m 80 (ix (0 : Int32))) then bd2 (f_X11_differsBy v1 v2 m) (fun r2 m1 => bd2 (f_X11_differsBy v1 (1 : Int32) m1) (fun r4 m3 => (if r2 = r4 then f_X11_isAlike_L2 k v1 (v2 + (1 : Int32)) m3 else some ((0 : Int32), m3)))) else some ((1 : Int32), m))
theorem t_X11_isAlike_L2 {X : XX} {G : GG} {ρ : Nat → Nat} {n t u w v : Nat} {x : Option Nat} {d : Nat} (hX : Ok X G ρ cX11_isAlike 3 RX11 d) (hd0 : 2 ≤ d) (hn : 126 ≤ n) {rE : Int32} {mE : Mm} (hF : Fin' X G ρ n (some .boolean) (some (.int rE)) (RT t u w v x) mE) : ∀ (k : Nat) (v1 : Int32) (v2 : Int32) (m : Mm), f_X11_isAlike_L2 k v1 v2 m = some (rE, mE) → J X G ρ n 3 2 [(0, .ref 78), (1, .int v1), (2, .int v2)] [] (RT t u w v x) m := by
  intro k
  induction k with
  | zero => intro _ _ _ h; rw [f_X11_isAlike_L2] at h; cases h
  | succ k ih =>
    intro v1 v2 m h
    rw [f_X11_isAlike_L2] at h
    refine J_iload_n hX dX11_isAlike_2 rfl 2 rfl ?_
    refine J_aload_n hX dX11_isAlike_3 rfl 0 rfl ?_
    refine J_getR hX dX11_isAlike_4 fl_RX11_13 (ltn ltc_78 hn) lo_78 rfl (rt_78_10 _ _ _ _ _) ?_
    refine J_iconst hX (0 : Int32) dX11_isAlike_7 ic_0 ?_
    refine J_iaload0 hX dX11_isAlike_8 (ltn ltc_80 hn) lay_80 (by decide) ?_
    refine J_icmp_ge hX 35 dX11_isAlike_9 (by decide) h (fun c h => ?_) (fun c h => ?_)
    · refine J_aload_n hX dX11_isAlike_12 rfl 0 rfl ?_
      refine J_iload_n hX dX11_isAlike_13 rfl 1 rfl ?_
      refine J_iload_n hX dX11_isAlike_14 rfl 2 rfl ?_
      obtain ⟨r2, m1, h0, h⟩ := bd2_some h
      refine J_callVi (As := [.int v1, .int v2]) (st := []) hX dX11_isAlike_15 cw_RX11_445 (by omega) (c_X11_differsBy hn  h0) (ltn ltc_78 hn) lo_78 (by decide) rfl rfl rfl (Nat.le_of_ble_eq_true rfl) ?_
      clear h0
      refine J_aload_n hX dX11_isAlike_18 rfl 0 rfl ?_
      refine J_iload_n hX dX11_isAlike_19 rfl 1 rfl ?_
      refine J_iconst hX (1 : Int32) dX11_isAlike_20 ic_1 ?_
      obtain ⟨r4, m3, h0, h⟩ := bd2_some h
      refine J_callVi (As := [.int v1, .int (1 : Int32)]) (st := [.int r2]) hX dX11_isAlike_21 cw_RX11_445 (by omega) (c_X11_differsBy hn  h0) (ltn ltc_78 hn) lo_78 (by decide) rfl rfl rfl (Nat.le_of_ble_eq_true rfl) ?_
      clear h0
      refine J_icmp_eq hX 29 dX11_isAlike_24 (by decide) h (fun c h => ?_) (fun c h => ?_)
      · refine J_iinc hX (v2 + (1 : Int32)) [(2, .int (v2 + (1 : Int32))), (0, .ref 78), (1, .int v1)] dX11_isAlike_29 2 rfl (congrArg (fun z => v2 + z) ic_1) (by decide) rfl ?_
        refine J_goto hX 2 dX11_isAlike_32 (by decide) ?_
        refine J_sub [(0, .ref 78), (1, .int v1), (2, .int (v2 + (1 : Int32)))] [1, 2, 0] rfl ?_
        exact ih v1 (v2 + (1 : Int32)) m3 h
      · refine J_iconst hX (0 : Int32) dX11_isAlike_27 ic_0 ?_
        exact J_ireturn hX dX11_isAlike_28 h hF narrow_b0
    · refine J_iconst hX (1 : Int32) dX11_isAlike_35 ic_1 ?_
      exact J_ireturn hX dX11_isAlike_36 h hF narrow_b1
def f_X11_isAlike (x1 : Int32) (m : Mm) : Option (Int32 × Mm) := f_X11_isAlike_L2 FU x1 (2 : Int32)  m
theorem t_X11_isAlike {X : XX} {G : GG} {ρ : Nat → Nat} {n t u w v : Nat} {x : Option Nat} {d : Nat} (hX : Ok X G ρ cX11_isAlike 3 RX11 d) (hd0 : 2 ≤ d) (hn : 126 ≤ n) {rE : Int32} {mE : Mm} (hF : Fin' X G ρ n (some .boolean) (some (.int rE)) (RT t u w v x) mE) {x1 : Int32} {m : Mm} (h : f_X11_isAlike x1 m = some (rE, mE)) : J X G ρ n 3 0 [(0, .ref 78), (1, .int x1)] [] (RT t u w v x) m := by
  unfold f_X11_isAlike at h
  refine J_iconst hX (2 : Int32) dX11_isAlike_0 ic_2 ?_
  refine J_istore_n hX [(2, .int (2 : Int32)), (0, .ref 78), (1, .int x1)] dX11_isAlike_1 rfl (by decide) rfl ?_
  refine J_sub [(0, .ref 78), (1, .int x1), (2, .int (2 : Int32))] [1, 2, 0] rfl ?_
  exact t_X11_isAlike_L2 hX hd0 hn hF FU x1 (2 : Int32)  m h
theorem c_X11_isAlike {G : GG} {l : Launch} {ρ : Nat → Nat} {n t u w v : Nat} {x : Option Nat} (hn : 126 ≤ n) {x1 : Int32} {m : Mm} {rE : Int32} {mE : Mm} (h : f_X11_isAlike x1 m = some (rE, mE)) : CT G l yX11_isAlike cX11_isAlike 3 (some .boolean) 2 0 0 ρ n (RT t u w v x) [.ref 78, .int x1] m (some (.int rE)) (RT t u w v x) mE := ct_of_J (by decide) rfl (Nat.le_of_ble_eq_true rfl) (fun X hX e1 e2 e3 e4 hQ hr hl => t_X11_isAlike hX (Nat.le_refl _) hn ⟨by rw [hQ, e3, e4], hr, hl⟩ h)
def f_X11_seeks_L21 (F_X11_seeks : Int32 → Int32 → Int32 → Mm → Option (Int32 × Mm)) : Nat → Int32 → Int32 → Int32 →  Mm → Option (Int32 × Mm)
  | 0, _, _, _, _ => none
  | k + 1, v1, v3, v4, m => (if v4 < (gI m 80 (ix (0 : Int32))) then bd2 (F_X11_seeks (v1 ||| ((1 : Int32) <<< (v4 &&& 31))) (v4 + (1 : Int32)) (v3 - (1 : Int32)) m) (fun r2 m1 => (if r2 = 0 then f_X11_seeks_L21 F_X11_seeks k v1 v3 (v4 + (1 : Int32)) m1 else some (r2, m1))) else some ((0 : Int32), m))
theorem t_X11_seeks_L21 {X : XX} {G : GG} {ρ : Nat → Nat} {n t u w v : Nat} {x : Option Nat} {d : Nat} {F_X11_seeks : Int32 → Int32 → Int32 → Mm → Option (Int32 × Mm)} (hX : Ok X G ρ cX11_seeks 6 RX11 d) (hd0 : 3 ≤ d) (hn : 126 ≤ n) {dF : Nat} (hdF : dF + 1 ≤ d) (hF_X11_seeks : ∀ {y0 : Int32} {y1 : Int32} {y2 : Int32} {m : Mm} {r : Int32} {mE : Mm}, F_X11_seeks y0 y1 y2 m = some (r, mE) → CT G X.1.2.1 yX11_seeks cX11_seeks 6 (some .int) dF 0 0 ρ n (RT t u w v x) [.ref 78, .int y0, .int y1, .int y2] m (some (.int r)) (RT t u w v x) mE) {rE : Int32} {mE : Mm} (hF : Fin' X G ρ n (some .int) (some (.int rE)) (RT t u w v x) mE) : ∀ (k : Nat) (v1 : Int32) (v3 : Int32) (v4 : Int32) (m : Mm), f_X11_seeks_L21 F_X11_seeks k v1 v3 v4 m = some (rE, mE) → J X G ρ n 6 21 [(0, .ref 78), (1, .int v1), (3, .int v3), (4, .int v4)] [] (RT t u w v x) m := by
  intro k
  induction k with
  | zero => intro _ _ _ _ h; rw [f_X11_seeks_L21] at h; cases h
  | succ k ih =>
    intro v1 v3 v4 m h
    rw [f_X11_seeks_L21] at h
    refine J_iload hX dX11_seeks_21 3 rfl ?_
    refine J_aload_n hX dX11_seeks_23 rfl 0 rfl ?_
    refine J_getR hX dX11_seeks_24 fl_RX11_13 (ltn ltc_78 hn) lo_78 rfl (rt_78_10 _ _ _ _ _) ?_
    refine J_iconst hX (0 : Int32) dX11_seeks_27 ic_0 ?_
    refine J_iaload0 hX dX11_seeks_28 (ltn ltc_80 hn) lay_80 (by decide) ?_
    refine J_icmp_ge hX 65 dX11_seeks_29 (by decide) h (fun c h => ?_) (fun c h => ?_)
    · refine J_aload_n hX dX11_seeks_32 rfl 0 rfl ?_
      refine J_iload_n hX dX11_seeks_33 rfl 1 rfl ?_
      refine J_iconst hX (1 : Int32) dX11_seeks_34 ic_1 ?_
      refine J_iload hX dX11_seeks_35 3 rfl ?_
      refine J_ishl hX dX11_seeks_37 ?_
      refine J_ior hX dX11_seeks_38 ?_
      refine J_iload hX dX11_seeks_39 3 rfl ?_
      refine J_iconst hX (1 : Int32) dX11_seeks_41 ic_1 ?_
      refine J_iadd hX dX11_seeks_42 ?_
      refine J_iload_n hX dX11_seeks_43 rfl 2 rfl ?_
      refine J_iconst hX (1 : Int32) dX11_seeks_44 ic_1 ?_
      refine J_isub hX dX11_seeks_45 ?_
      obtain ⟨r2, m1, h0, h⟩ := bd2_some h
      refine J_callVi (As := [.int (v1 ||| ((1 : Int32) <<< (v4 &&& 31))), .int (v4 + (1 : Int32)), .int (v3 - (1 : Int32))]) (st := []) hX dX11_seeks_46 cw_RX11_454 (by omega) (hF_X11_seeks h0) (ltn ltc_78 hn) lo_78 (by decide) rfl rfl rfl (Nat.le_of_ble_eq_true rfl) ?_
      clear h0
      refine J_istore hX [(5, .int r2), (0, .ref 78), (1, .int v1), (3, .int v3), (4, .int v4)] dX11_seeks_49 (by decide) rfl ?_
      refine J_iload hX dX11_seeks_51 0 rfl ?_
      refine J_if_eq hX 59 dX11_seeks_53 (by decide) h (fun c h => ?_) (fun c h => ?_)
      · refine J_iinc hX (v4 + (1 : Int32)) [(4, .int (v4 + (1 : Int32))), (5, .int r2), (0, .ref 78), (1, .int v1), (3, .int v3)] dX11_seeks_59 4 rfl (congrArg (fun z => v4 + z) ic_1) (by decide) rfl ?_
        refine J_goto hX 21 dX11_seeks_62 (by decide) ?_
        refine J_sub [(0, .ref 78), (1, .int v1), (3, .int v3), (4, .int (v4 + (1 : Int32)))] [2, 3, 4, 0] rfl ?_
        exact ih v1 v3 (v4 + (1 : Int32)) m1 h
      · refine J_iload hX dX11_seeks_56 0 rfl ?_
        exact J_ireturn hX dX11_seeks_58 h hF rfl
    · refine J_iconst hX (0 : Int32) dX11_seeks_65 ic_0 ?_
      exact J_ireturn hX dX11_seeks_66 h hF rfl
def f_X11_seeks (F_X11_seeks : Int32 → Int32 → Int32 → Mm → Option (Int32 × Mm)) (x1 : Int32) (x2 : Int32) (x3 : Int32) (m : Mm) : Option (Int32 × Mm) := (if x3 = 0 then bd2 (f_X11_isAlike x1 m) (fun r4 m3 => (if r4 = 0 then some ((0 : Int32), m3) else some (x1, m3))) else f_X11_seeks_L21 F_X11_seeks FU x1 x3 x2  m)
theorem t_X11_seeks {X : XX} {G : GG} {ρ : Nat → Nat} {n t u w v : Nat} {x : Option Nat} {d : Nat} {F_X11_seeks : Int32 → Int32 → Int32 → Mm → Option (Int32 × Mm)} (hX : Ok X G ρ cX11_seeks 6 RX11 d) (hd0 : 3 ≤ d) (hn : 126 ≤ n) {dF : Nat} (hdF : dF + 1 ≤ d) (hF_X11_seeks : ∀ {y0 : Int32} {y1 : Int32} {y2 : Int32} {m : Mm} {r : Int32} {mE : Mm}, F_X11_seeks y0 y1 y2 m = some (r, mE) → CT G X.1.2.1 yX11_seeks cX11_seeks 6 (some .int) dF 0 0 ρ n (RT t u w v x) [.ref 78, .int y0, .int y1, .int y2] m (some (.int r)) (RT t u w v x) mE) {rE : Int32} {mE : Mm} (hF : Fin' X G ρ n (some .int) (some (.int rE)) (RT t u w v x) mE) {x1 : Int32} {x2 : Int32} {x3 : Int32} {m : Mm} (h : f_X11_seeks F_X11_seeks x1 x2 x3 m = some (rE, mE)) : J X G ρ n 6 0 [(0, .ref 78), (1, .int x1), (2, .int x2), (3, .int x3)] [] (RT t u w v x) m := by
  unfold f_X11_seeks at h
  refine J_iload_n hX dX11_seeks_0 rfl 3 rfl ?_
  refine J_if_ne hX 18 dX11_seeks_1 (by decide) h (fun c h => ?_) (fun c h => ?_)
  · refine J_aload_n hX dX11_seeks_4 rfl 0 rfl ?_
    refine J_iload_n hX dX11_seeks_5 rfl 1 rfl ?_
    obtain ⟨r4, m3, h0, h⟩ := bd2_some h
    refine J_callVi (As := [.int x1]) (st := []) hX dX11_seeks_6 cw_RX11_451 (by omega) (c_X11_isAlike hn  h0) (ltn ltc_78 hn) lo_78 (by decide) rfl rfl rfl (Nat.le_of_ble_eq_true rfl) ?_
    clear h0
    refine J_if_eq hX 16 dX11_seeks_9 (by decide) h (fun c h => ?_) (fun c h => ?_)
    · refine J_iconst hX (0 : Int32) dX11_seeks_16 ic_0 ?_
      exact J_ireturn hX dX11_seeks_17 h hF rfl
    · refine J_iload_n hX dX11_seeks_12 rfl 1 rfl ?_
      refine J_goto hX 17 dX11_seeks_13 (by decide) ?_
      exact J_ireturn hX dX11_seeks_17 h hF rfl
  · refine J_iload_n hX dX11_seeks_18 rfl 2 rfl ?_
    refine J_istore hX [(4, .int x2), (0, .ref 78), (1, .int x1), (2, .int x2), (3, .int x3)] dX11_seeks_19 (by decide) rfl ?_
    refine J_sub [(0, .ref 78), (1, .int x1), (3, .int x3), (4, .int x2)] [1, 2, 4, 0] rfl ?_
    exact t_X11_seeks_L21 hX hd0 hn hdF hF_X11_seeks hF FU x1 x3 x2  m h
def fr_X11_seeks : Nat → Int32 → Int32 → Int32 → Mm → Option (Int32 × Mm)
  | 0 => fun _ _ _ _ => none
  | k + 1 => f_X11_seeks (fr_X11_seeks k)
theorem cfr_X11_seeks {G : GG} {l : Launch} {ρ : Nat → Nat} {n t u w v : Nat} {x : Option Nat} (hn : 126 ≤ n) : ∀ k : Nat, (∀ {y0 : Int32} {y1 : Int32} {y2 : Int32} {m : Mm} {r : Int32} {mE : Mm}, (fr_X11_seeks k) y0 y1 y2 m = some (r, mE) → CT G l yX11_seeks cX11_seeks 6 (some .int) (3 + k) 0 0 ρ n (RT t u w v x) [.ref 78, .int y0, .int y1, .int y2] m (some (.int r)) (RT t u w v x) mE) := by
  intro k
  induction k with
  | zero => exact fun h => by cases h
  | succ k ih => exact fun h => ct_of_J (by decide) rfl (Nat.le_of_ble_eq_true rfl) (fun X hX e1 e2 e3 e4 hQ hr hl => t_X11_seeks hX (by omega) hn (by show 3 + k + 1 ≤ 3 + (k + 1); omega) (fun h => by rw [e2]; exact ih h) ⟨by rw [hQ, e3, e4], hr, hl⟩ h)
def f_X11_seeks_r : Int32 → Int32 → Int32 → Mm → Option (Int32 × Mm) := fr_X11_seeks 8
theorem c_X11_seeks_r {G : GG} {l : Launch} {ρ : Nat → Nat} {n t u w v : Nat} {x : Option Nat} (hn : 126 ≤ n) : ∀ {y0 : Int32} {y1 : Int32} {y2 : Int32} {m : Mm} {r : Int32} {mE : Mm}, (f_X11_seeks_r) y0 y1 y2 m = some (r, mE) → CT G l yX11_seeks cX11_seeks 6 (some .int) 11 0 0 ρ n (RT t u w v x) [.ref 78, .int y0, .int y1, .int y2] m (some (.int r)) (RT t u w v x) mE := fun h => cfr_X11_seeks hn 8 h
def f_X11_seek (x1 : Int32) (m : Mm) : Option (Int32 × Mm) := stI m 78 0 (0 : Int32) (fun m1 => bd2 (f_X11_within x1 (2 : Int32) (5 : Int32) m1) (fun r3 m2 => (if r3 = 0 then some ((-1 : Int32), m2) else (if (gI m2 80 (ix (0 : Int32))) = 0 then some ((-1 : Int32), m2) else bd2 (f_X11_seeks_r  (1 : Int32) (1 : Int32) (x1 - (1 : Int32)) m2) (fun r5 m4 => (if r5 = 0 then some ((-1 : Int32), m4) else some (r5, m4)))))))
theorem t_X11_seek {X : XX} {G : GG} {ρ : Nat → Nat} {n t u w v : Nat} {x : Option Nat} {d : Nat} (hX : Ok X G ρ cX11_seek 3 RX11 d) (hd0 : 12 ≤ d) (hn : 126 ≤ n) {rE : Int32} {mE : Mm} (hF : Fin' X G ρ n (some .int) (some (.int rE)) (RT t u w v x) mE) {x1 : Int32} {m : Mm} (h : f_X11_seek x1 m = some (rE, mE)) : J X G ρ n 3 0 [(0, .ref 78), (1, .int x1)] [] (RT t u w v x) m := by
  unfold f_X11_seek at h
  refine J_aload_n hX dX11_seek_0 rfl 0 rfl ?_
  refine J_iconst hX (0 : Int32) dX11_seek_1 ic_0 ?_
  refine J_putI hX dX11_seek_2 pl_RX11_152 (ltn ltc_78 hn) lo_78 rfl rfl rfl h (fun m1 h => ?_)
  refine J_iload_n hX dX11_seek_5 rfl 1 rfl ?_
  refine J_iconst hX (2 : Int32) dX11_seek_6 ic_2 ?_
  refine J_iconst hX (5 : Int32) dX11_seek_7 ic_5 ?_
  obtain ⟨r3, m2, h0, h⟩ := bd2_some h
  refine J_callSi (As := [.int x1, .int (2 : Int32), .int (5 : Int32)]) (st := []) hX dX11_seek_8 cw_RX11_239 (by omega) (c_X11_within hn  h0) rfl rfl (Nat.le_of_ble_eq_true rfl) ?_
  clear h0
  refine J_if_eq hX 23 dX11_seek_11 (by decide) h (fun c h => ?_) (fun c h => ?_)
  · refine J_iconst hX (-1 : Int32) dX11_seek_23 ic_m1 ?_
    exact J_ireturn hX dX11_seek_24 h hF rfl
  · refine J_aload_n hX dX11_seek_14 rfl 0 rfl ?_
    refine J_getR hX dX11_seek_15 fl_RX11_13 (ltn ltc_78 hn) lo_78 rfl (rt_78_10 _ _ _ _ _) ?_
    refine J_iconst hX (0 : Int32) dX11_seek_18 ic_0 ?_
    refine J_iaload0 hX dX11_seek_19 (ltn ltc_80 hn) lay_80 (by decide) ?_
    refine J_if_ne hX 25 dX11_seek_20 (by decide) h (fun c h => ?_) (fun c h => ?_)
    · refine J_iconst hX (-1 : Int32) dX11_seek_23 ic_m1 ?_
      exact J_ireturn hX dX11_seek_24 h hF rfl
    · refine J_aload_n hX dX11_seek_25 rfl 0 rfl ?_
      refine J_iconst hX (1 : Int32) dX11_seek_26 ic_1 ?_
      refine J_iconst hX (1 : Int32) dX11_seek_27 ic_1 ?_
      refine J_iload_n hX dX11_seek_28 rfl 1 rfl ?_
      refine J_iconst hX (1 : Int32) dX11_seek_29 ic_1 ?_
      refine J_isub hX dX11_seek_30 ?_
      obtain ⟨r5, m4, h0, h⟩ := bd2_some h
      refine J_callVi (As := [.int (1 : Int32), .int (1 : Int32), .int (x1 - (1 : Int32))]) (st := []) hX dX11_seek_31 cw_RX11_454 (by omega) (c_X11_seeks_r hn  h0) (ltn ltc_78 hn) lo_78 (by decide) rfl rfl rfl (Nat.le_of_ble_eq_true rfl) ?_
      clear h0
      refine J_istore_n hX [(2, .int r5), (0, .ref 78), (1, .int x1)] dX11_seek_34 rfl (by decide) rfl ?_
      refine J_iload_n hX dX11_seek_35 rfl 0 rfl ?_
      refine J_if_ne hX 43 dX11_seek_36 (by decide) h (fun c h => ?_) (fun c h => ?_)
      · refine J_iconst hX (-1 : Int32) dX11_seek_39 ic_m1 ?_
        refine J_goto hX 44 dX11_seek_40 (by decide) ?_
        exact J_ireturn hX dX11_seek_44 h hF rfl
      · refine J_iload_n hX dX11_seek_43 rfl 0 rfl ?_
        exact J_ireturn hX dX11_seek_44 h hF rfl
theorem c_X11_seek {G : GG} {l : Launch} {ρ : Nat → Nat} {n t u w v : Nat} {x : Option Nat} (hn : 126 ≤ n) {x1 : Int32} {m : Mm} {rE : Int32} {mE : Mm} (h : f_X11_seek x1 m = some (rE, mE)) : CT G l yX11_seek cX11_seek 3 (some .int) 12 0 0 ρ n (RT t u w v x) [.ref 78, .int x1] m (some (.int rE)) (RT t u w v x) mE := ct_of_J (by decide) rfl (Nat.le_of_ble_eq_true rfl) (fun X hX e1 e2 e3 e4 hQ hr hl => t_X11_seek hX (Nat.le_refl _) hn ⟨by rw [hQ, e3, e4], hr, hl⟩ h)
def f_X10_cost (t : Nat) (u : Nat) (w : Nat) (v : Nat) (x1 : Int32) (m : Mm) : Option (Int32 × Mm) := bd2 (f_X10_isDatum t u w v x1 m) (fun r2 m1 => (if r2 = 0 then some ((-1 : Int32), m1) else gd (inb x1 160) (bd2 (f_X6_costOf 54 (gI m1 36 (ix x1)) m1) (fun r4 m3 => some (r4, m3)))))
theorem t_X10_cost {X : XX} {G : GG} {ρ : Nat → Nat} {n : Nat} {x : Option Nat} {d : Nat} {t : Nat} {u : Nat} {w : Nat} {v : Nat} (hX : Ok X G ρ cX10_cost 2 RX10 d) (hd0 : 3 ≤ d) (hn : 126 ≤ n) (ht : isTo t) (hu : isTo u) (hw : isWk w) (hv : isWk v) {rE : Int32} {mE : Mm} (hF : Fin' X G ρ n (some .int) (some (.int rE)) (RT t u w v x) mE) {x1 : Int32} {m : Mm} (h : f_X10_cost t u w v x1 m = some (rE, mE)) : J X G ρ n 2 0 [(0, .ref 0), (1, .int x1)] [] (RT t u w v x) m := by
  unfold f_X10_cost at h
  refine J_aload_n hX dX10_cost_0 rfl 0 rfl ?_
  refine J_iload_n hX dX10_cost_1 rfl 1 rfl ?_
  obtain ⟨r2, m1, h0, h⟩ := bd2_some h
  refine J_callVi (As := [.int x1]) (st := []) hX dX10_cost_2 cw_RX10_156 (by omega) (c_X10_isDatum hn ht hu hw hv h0) (ltn ltc_0 hn) lo_0 (by decide) rfl rfl rfl (Nat.le_of_ble_eq_true rfl) ?_
  clear h0
  refine J_if_eq hX 27 dX10_cost_5 (by decide) h (fun c h => ?_) (fun c h => ?_)
  · refine J_iconst hX (-1 : Int32) dX10_cost_27 ic_m1 ?_
    exact J_ireturn hX dX10_cost_28 h hF rfl
  · refine J_aload_n hX dX10_cost_8 rfl 0 rfl ?_
    refine J_getR hX dX10_cost_9 fl_RX10_60 (ltn ltc_0 hn) lo_0 rfl (rt_0_8 _ _ _ _ _) ?_
    refine J_aload_n hX dX10_cost_12 rfl 0 rfl ?_
    refine J_getR hX dX10_cost_13 fl_RX10_48 (ltn ltc_0 hn) lo_0 rfl (rt_0_6 _ _ _ _ _) ?_
    refine J_getR hX dX10_cost_16 fl_RX10_159 (ltn ltc_26 hn) lo_26 rfl (rt_26_12 _ _ _ _ _) ?_
    refine J_iload_n hX dX10_cost_19 rfl 1 rfl ?_
    refine J_iaload hX dX10_cost_20 (ltn ltc_36 hn) lay_36 h (fun h => ?_)
    obtain ⟨r4, m3, h0, h⟩ := bd2_some h
    refine J_callVi (As := [.int (gI m1 36 (ix x1))]) (st := []) hX dX10_cost_21 cw_RX10_261 (by omega) (c_X6_costOf hn p_isSt_54 h0) (ltn ltc_54 hn) lo_54 (by decide) rfl rfl rfl (Nat.le_of_ble_eq_true rfl) ?_
    clear h0
    refine J_goto hX 28 dX10_cost_24 (by decide) ?_
    exact J_ireturn hX dX10_cost_28 h hF rfl
theorem c_X10_cost {G : GG} {l : Launch} {ρ : Nat → Nat} {n : Nat} {x : Option Nat} (hn : 126 ≤ n) {t : Nat} {u : Nat} {w : Nat} {v : Nat} (ht : isTo t) (hu : isTo u) (hw : isWk w) (hv : isWk v) {x1 : Int32} {m : Mm} {rE : Int32} {mE : Mm} (h : f_X10_cost t u w v x1 m = some (rE, mE)) : CT G l yX10_cost cX10_cost 2 (some .int) 3 0 0 ρ n (RT t u w v x) [.ref 0, .int x1] m (some (.int rE)) (RT t u w v x) mE := ct_of_J (by decide) rfl (Nat.le_of_ble_eq_true rfl) (fun X hX e1 e2 e3 e4 hQ hr hl => t_X10_cost hX (Nat.le_refl _) hn ht hu hw hv ⟨by rw [hQ, e3, e4], hr, hl⟩ h)
def f_X11_cost (x1 : Int32) (m : Mm) : Option (Int32 × Mm) := stI m 78 0 (0 : Int32) (fun m1 => bd2 (f_X11_isDatum x1 m1) (fun r3 m2 => (if r3 = 0 then some ((-1 : Int32), m2) else bd2 (f_X11_canRead x1 m2) (fun r5 m4 => (if r5 = 0 then some ((-1 : Int32), m4) else bd2 (f_X11_costOf x1 m4) (fun r7 m6 => some (r7, m6)))))))
theorem t_X11_cost {X : XX} {G : GG} {ρ : Nat → Nat} {n t u w v : Nat} {x : Option Nat} {d : Nat} (hX : Ok X G ρ cX11_cost 2 RX11 d) (hd0 : 3 ≤ d) (hn : 126 ≤ n) {rE : Int32} {mE : Mm} (hF : Fin' X G ρ n (some .int) (some (.int rE)) (RT t u w v x) mE) {x1 : Int32} {m : Mm} (h : f_X11_cost x1 m = some (rE, mE)) : J X G ρ n 2 0 [(0, .ref 78), (1, .int x1)] [] (RT t u w v x) m := by
  unfold f_X11_cost at h
  refine J_aload_n hX dX11_cost_0 rfl 0 rfl ?_
  refine J_iconst hX (0 : Int32) dX11_cost_1 ic_0 ?_
  refine J_putI hX dX11_cost_2 pl_RX11_152 (ltn ltc_78 hn) lo_78 rfl rfl rfl h (fun m1 h => ?_)
  refine J_aload_n hX dX11_cost_5 rfl 0 rfl ?_
  refine J_iload_n hX dX11_cost_6 rfl 1 rfl ?_
  obtain ⟨r3, m2, h0, h⟩ := bd2_some h
  refine J_callVi (As := [.int x1]) (st := []) hX dX11_cost_7 cw_RX11_382 (by omega) (c_X11_isDatum hn  h0) (ltn ltc_78 hn) lo_78 (by decide) rfl rfl rfl (Nat.le_of_ble_eq_true rfl) ?_
  clear h0
  refine J_if_eq hX 29 dX11_cost_10 (by decide) h (fun c h => ?_) (fun c h => ?_)
  · refine J_iconst hX (-1 : Int32) dX11_cost_29 ic_m1 ?_
    exact J_ireturn hX dX11_cost_30 h hF rfl
  · refine J_aload_n hX dX11_cost_13 rfl 0 rfl ?_
    refine J_iload_n hX dX11_cost_14 rfl 1 rfl ?_
    obtain ⟨r5, m4, h0, h⟩ := bd2_some h
    refine J_callVi (As := [.int x1]) (st := []) hX dX11_cost_15 cw_RX11_397 (by omega) (c_X11_canRead hn  h0) (ltn ltc_78 hn) lo_78 (by decide) rfl rfl rfl (Nat.le_of_ble_eq_true rfl) ?_
    clear h0
    refine J_if_eq hX 29 dX11_cost_18 (by decide) h (fun c h => ?_) (fun c h => ?_)
    · refine J_iconst hX (-1 : Int32) dX11_cost_29 ic_m1 ?_
      exact J_ireturn hX dX11_cost_30 h hF rfl
    · refine J_aload_n hX dX11_cost_21 rfl 0 rfl ?_
      refine J_iload_n hX dX11_cost_22 rfl 1 rfl ?_
      obtain ⟨r7, m6, h0, h⟩ := bd2_some h
      refine J_callVi (As := [.int x1]) (st := []) hX dX11_cost_23 cw_RX11_457 (by omega) (c_X11_costOf hn  h0) (ltn ltc_78 hn) lo_78 (by decide) rfl rfl rfl (Nat.le_of_ble_eq_true rfl) ?_
      clear h0
      refine J_goto hX 30 dX11_cost_26 (by decide) ?_
      exact J_ireturn hX dX11_cost_30 h hF rfl
theorem c_X11_cost {G : GG} {l : Launch} {ρ : Nat → Nat} {n t u w v : Nat} {x : Option Nat} (hn : 126 ≤ n) {x1 : Int32} {m : Mm} {rE : Int32} {mE : Mm} (h : f_X11_cost x1 m = some (rE, mE)) : CT G l yX11_cost cX11_cost 2 (some .int) 3 0 0 ρ n (RT t u w v x) [.ref 78, .int x1] m (some (.int rE)) (RT t u w v x) mE := ct_of_J (by decide) rfl (Nat.le_of_ble_eq_true rfl) (fun X hX e1 e2 e3 e4 hQ hr hl => t_X11_cost hX (Nat.le_refl _) hn ⟨by rw [hQ, e3, e4], hr, hl⟩ h)
def f_X10_price (t : Nat) (u : Nat) (w : Nat) (v : Nat) (x1 : Int32) (m : Mm) : Option (Int32 × Mm) := bd2 (f_X10_isDatum t u w v x1 m) (fun r2 m1 => (if r2 = 0 then some ((-1 : Int32), m1) else gd (inb x1 160) (bd2 (f_X6_priceOf 54 (gI m1 36 (ix x1)) m1) (fun r4 m3 => some (r4, m3)))))
theorem t_X10_price {X : XX} {G : GG} {ρ : Nat → Nat} {n : Nat} {x : Option Nat} {d : Nat} {t : Nat} {u : Nat} {w : Nat} {v : Nat} (hX : Ok X G ρ cX10_price 2 RX10 d) (hd0 : 3 ≤ d) (hn : 126 ≤ n) (ht : isTo t) (hu : isTo u) (hw : isWk w) (hv : isWk v) {rE : Int32} {mE : Mm} (hF : Fin' X G ρ n (some .int) (some (.int rE)) (RT t u w v x) mE) {x1 : Int32} {m : Mm} (h : f_X10_price t u w v x1 m = some (rE, mE)) : J X G ρ n 2 0 [(0, .ref 0), (1, .int x1)] [] (RT t u w v x) m := by
  unfold f_X10_price at h
  refine J_aload_n hX dX10_price_0 rfl 0 rfl ?_
  refine J_iload_n hX dX10_price_1 rfl 1 rfl ?_
  obtain ⟨r2, m1, h0, h⟩ := bd2_some h
  refine J_callVi (As := [.int x1]) (st := []) hX dX10_price_2 cw_RX10_156 (by omega) (c_X10_isDatum hn ht hu hw hv h0) (ltn ltc_0 hn) lo_0 (by decide) rfl rfl rfl (Nat.le_of_ble_eq_true rfl) ?_
  clear h0
  refine J_if_eq hX 27 dX10_price_5 (by decide) h (fun c h => ?_) (fun c h => ?_)
  · refine J_iconst hX (-1 : Int32) dX10_price_27 ic_m1 ?_
    exact J_ireturn hX dX10_price_28 h hF rfl
  · refine J_aload_n hX dX10_price_8 rfl 0 rfl ?_
    refine J_getR hX dX10_price_9 fl_RX10_60 (ltn ltc_0 hn) lo_0 rfl (rt_0_8 _ _ _ _ _) ?_
    refine J_aload_n hX dX10_price_12 rfl 0 rfl ?_
    refine J_getR hX dX10_price_13 fl_RX10_48 (ltn ltc_0 hn) lo_0 rfl (rt_0_6 _ _ _ _ _) ?_
    refine J_getR hX dX10_price_16 fl_RX10_159 (ltn ltc_26 hn) lo_26 rfl (rt_26_12 _ _ _ _ _) ?_
    refine J_iload_n hX dX10_price_19 rfl 1 rfl ?_
    refine J_iaload hX dX10_price_20 (ltn ltc_36 hn) lay_36 h (fun h => ?_)
    obtain ⟨r4, m3, h0, h⟩ := bd2_some h
    refine J_callVi (As := [.int (gI m1 36 (ix x1))]) (st := []) hX dX10_price_21 cw_RX10_264 (by omega) (c_X6_priceOf hn p_isSt_54 h0) (ltn ltc_54 hn) lo_54 (by decide) rfl rfl rfl (Nat.le_of_ble_eq_true rfl) ?_
    clear h0
    refine J_goto hX 28 dX10_price_24 (by decide) ?_
    exact J_ireturn hX dX10_price_28 h hF rfl
theorem c_X10_price {G : GG} {l : Launch} {ρ : Nat → Nat} {n : Nat} {x : Option Nat} (hn : 126 ≤ n) {t : Nat} {u : Nat} {w : Nat} {v : Nat} (ht : isTo t) (hu : isTo u) (hw : isWk w) (hv : isWk v) {x1 : Int32} {m : Mm} {rE : Int32} {mE : Mm} (h : f_X10_price t u w v x1 m = some (rE, mE)) : CT G l yX10_price cX10_price 2 (some .int) 3 0 0 ρ n (RT t u w v x) [.ref 0, .int x1] m (some (.int rE)) (RT t u w v x) mE := ct_of_J (by decide) rfl (Nat.le_of_ble_eq_true rfl) (fun X hX e1 e2 e3 e4 hQ hr hl => t_X10_price hX (Nat.le_refl _) hn ht hu hw hv ⟨by rw [hQ, e3, e4], hr, hl⟩ h)
def f_X11_price (x1 : Int32) (m : Mm) : Option (Int32 × Mm) := stI m 78 0 (0 : Int32) (fun m1 => bd2 (f_X11_isDatum x1 m1) (fun r3 m2 => (if r3 = 0 then some ((-1 : Int32), m2) else bd2 (f_X11_canWrite x1 m2) (fun r5 m4 => (if r5 = 0 then some ((-1 : Int32), m4) else bd2 (f_X11_priceOf x1 m4) (fun r7 m6 => some (r7, m6)))))))
theorem t_X11_price {X : XX} {G : GG} {ρ : Nat → Nat} {n t u w v : Nat} {x : Option Nat} {d : Nat} (hX : Ok X G ρ cX11_price 2 RX11 d) (hd0 : 3 ≤ d) (hn : 126 ≤ n) {rE : Int32} {mE : Mm} (hF : Fin' X G ρ n (some .int) (some (.int rE)) (RT t u w v x) mE) {x1 : Int32} {m : Mm} (h : f_X11_price x1 m = some (rE, mE)) : J X G ρ n 2 0 [(0, .ref 78), (1, .int x1)] [] (RT t u w v x) m := by
  unfold f_X11_price at h
  refine J_aload_n hX dX11_price_0 rfl 0 rfl ?_
  refine J_iconst hX (0 : Int32) dX11_price_1 ic_0 ?_
  refine J_putI hX dX11_price_2 pl_RX11_152 (ltn ltc_78 hn) lo_78 rfl rfl rfl h (fun m1 h => ?_)
  refine J_aload_n hX dX11_price_5 rfl 0 rfl ?_
  refine J_iload_n hX dX11_price_6 rfl 1 rfl ?_
  obtain ⟨r3, m2, h0, h⟩ := bd2_some h
  refine J_callVi (As := [.int x1]) (st := []) hX dX11_price_7 cw_RX11_382 (by omega) (c_X11_isDatum hn  h0) (ltn ltc_78 hn) lo_78 (by decide) rfl rfl rfl (Nat.le_of_ble_eq_true rfl) ?_
  clear h0
  refine J_if_eq hX 29 dX11_price_10 (by decide) h (fun c h => ?_) (fun c h => ?_)
  · refine J_iconst hX (-1 : Int32) dX11_price_29 ic_m1 ?_
    exact J_ireturn hX dX11_price_30 h hF rfl
  · refine J_aload_n hX dX11_price_13 rfl 0 rfl ?_
    refine J_iload_n hX dX11_price_14 rfl 1 rfl ?_
    obtain ⟨r5, m4, h0, h⟩ := bd2_some h
    refine J_callVi (As := [.int x1]) (st := []) hX dX11_price_15 cw_RX11_403 (by omega) (c_X11_canWrite hn  h0) (ltn ltc_78 hn) lo_78 (by decide) rfl rfl rfl (Nat.le_of_ble_eq_true rfl) ?_
    clear h0
    refine J_if_eq hX 29 dX11_price_18 (by decide) h (fun c h => ?_) (fun c h => ?_)
    · refine J_iconst hX (-1 : Int32) dX11_price_29 ic_m1 ?_
      exact J_ireturn hX dX11_price_30 h hF rfl
    · refine J_aload_n hX dX11_price_21 rfl 0 rfl ?_
      refine J_iload_n hX dX11_price_22 rfl 1 rfl ?_
      obtain ⟨r7, m6, h0, h⟩ := bd2_some h
      refine J_callVi (As := [.int x1]) (st := []) hX dX11_price_23 cw_RX11_367 (by omega) (c_X11_priceOf hn  h0) (ltn ltc_78 hn) lo_78 (by decide) rfl rfl rfl (Nat.le_of_ble_eq_true rfl) ?_
      clear h0
      refine J_goto hX 30 dX11_price_26 (by decide) ?_
      exact J_ireturn hX dX11_price_30 h hF rfl
theorem c_X11_price {G : GG} {l : Launch} {ρ : Nat → Nat} {n t u w v : Nat} {x : Option Nat} (hn : 126 ≤ n) {x1 : Int32} {m : Mm} {rE : Int32} {mE : Mm} (h : f_X11_price x1 m = some (rE, mE)) : CT G l yX11_price cX11_price 2 (some .int) 3 0 0 ρ n (RT t u w v x) [.ref 78, .int x1] m (some (.int rE)) (RT t u w v x) mE := ct_of_J (by decide) rfl (Nat.le_of_ble_eq_true rfl) (fun X hX e1 e2 e3 e4 hQ hr hl => t_X11_price hX (Nat.le_refl _) hn ⟨by rw [hQ, e3, e4], hr, hl⟩ h)
def f_X10_would (t : Nat) (u : Nat) (w : Nat) (v : Nat) (x1 : Int32) (x2 : Int32) (m : Mm) : Option (Int32 × Mm) := bd2 (f_X10_isUpDisk t u w v x1 m) (fun r2 m1 => (if r2 = 0 then some ((-1 : Int32), m1) else bd2 (f_X10_isUpDisk t u w v x2 m1) (fun r4 m3 => (if r4 = 0 then some ((-1 : Int32), m3) else (if x1 = x2 then some ((-1 : Int32), m3) else bd2 (f_X5_readsFrom x2 x1 m3) (fun r6 m5 => some (r6, m5)))))))
theorem t_X10_would {X : XX} {G : GG} {ρ : Nat → Nat} {n : Nat} {x : Option Nat} {d : Nat} {t : Nat} {u : Nat} {w : Nat} {v : Nat} (hX : Ok X G ρ cX10_would 3 RX10 d) (hd0 : 3 ≤ d) (hn : 126 ≤ n) (ht : isTo t) (hu : isTo u) (hw : isWk w) (hv : isWk v) {rE : Int32} {mE : Mm} (hF : Fin' X G ρ n (some .int) (some (.int rE)) (RT t u w v x) mE) {x1 : Int32} {x2 : Int32} {m : Mm} (h : f_X10_would t u w v x1 x2 m = some (rE, mE)) : J X G ρ n 3 0 [(0, .ref 0), (1, .int x1), (2, .int x2)] [] (RT t u w v x) m := by
  unfold f_X10_would at h
  refine J_aload_n hX dX10_would_0 rfl 0 rfl ?_
  refine J_iload_n hX dX10_would_1 rfl 1 rfl ?_
  obtain ⟨r2, m1, h0, h⟩ := bd2_some h
  refine J_callVi (As := [.int x1]) (st := []) hX dX10_would_2 cw_RX10_267 (by omega) (c_X10_isUpDisk hn ht hu hw hv h0) (ltn ltc_0 hn) lo_0 (by decide) rfl rfl rfl (Nat.le_of_ble_eq_true rfl) ?_
  clear h0
  refine J_if_eq hX 33 dX10_would_5 (by decide) h (fun c h => ?_) (fun c h => ?_)
  · refine J_iconst hX (-1 : Int32) dX10_would_33 ic_m1 ?_
    exact J_ireturn hX dX10_would_34 h hF rfl
  · refine J_aload_n hX dX10_would_8 rfl 0 rfl ?_
    refine J_iload_n hX dX10_would_9 rfl 2 rfl ?_
    obtain ⟨r4, m3, h0, h⟩ := bd2_some h
    refine J_callVi (As := [.int x2]) (st := []) hX dX10_would_10 cw_RX10_267 (by omega) (c_X10_isUpDisk hn ht hu hw hv h0) (ltn ltc_0 hn) lo_0 (by decide) rfl rfl rfl (Nat.le_of_ble_eq_true rfl) ?_
    clear h0
    refine J_if_eq hX 33 dX10_would_13 (by decide) h (fun c h => ?_) (fun c h => ?_)
    · refine J_iconst hX (-1 : Int32) dX10_would_33 ic_m1 ?_
      exact J_ireturn hX dX10_would_34 h hF rfl
    · refine J_iload_n hX dX10_would_16 rfl 1 rfl ?_
      refine J_iload_n hX dX10_would_17 rfl 2 rfl ?_
      refine J_icmp_eq hX 33 dX10_would_18 (by decide) h (fun c h => ?_) (fun c h => ?_)
      · refine J_iconst hX (-1 : Int32) dX10_would_33 ic_m1 ?_
        exact J_ireturn hX dX10_would_34 h hF rfl
      · refine J_aload_n hX dX10_would_21 rfl 0 rfl ?_
        refine J_getR hX dX10_would_22 fl_RX10_80 (ltn ltc_0 hn) lo_0 rfl (rt_0_12 _ _ _ _ _) ?_
        refine J_iload_n hX dX10_would_25 rfl 2 rfl ?_
        refine J_iload_n hX dX10_would_26 rfl 1 rfl ?_
        obtain ⟨r6, m5, h0, h⟩ := bd2_some h
        refine J_callVi (As := [.int x2, .int x1]) (st := []) hX dX10_would_27 cw_RX10_270 (by omega) (c_X5_readsFrom hn  h0) (ltn ltc_76 hn) lo_76 (by decide) rfl rfl rfl (Nat.le_of_ble_eq_true rfl) ?_
        clear h0
        refine J_goto hX 34 dX10_would_30 (by decide) ?_
        exact J_ireturn hX dX10_would_34 h hF rfl
theorem c_X10_would {G : GG} {l : Launch} {ρ : Nat → Nat} {n : Nat} {x : Option Nat} (hn : 126 ≤ n) {t : Nat} {u : Nat} {w : Nat} {v : Nat} (ht : isTo t) (hu : isTo u) (hw : isWk w) (hv : isWk v) {x1 : Int32} {x2 : Int32} {m : Mm} {rE : Int32} {mE : Mm} (h : f_X10_would t u w v x1 x2 m = some (rE, mE)) : CT G l yX10_would cX10_would 3 (some .int) 3 0 0 ρ n (RT t u w v x) [.ref 0, .int x1, .int x2] m (some (.int rE)) (RT t u w v x) mE := ct_of_J (by decide) rfl (Nat.le_of_ble_eq_true rfl) (fun X hX e1 e2 e3 e4 hQ hr hl => t_X10_would hX (Nat.le_refl _) hn ht hu hw hv ⟨by rw [hQ, e3, e4], hr, hl⟩ h)
def f_X11_would_L49 : Nat → Int32 → Int32 → Int32 → Int32 →  Mm → Option (Int32 × Mm)
  | 0, _, _, _, _, _ => none
  | k + 1, v1, v2, v3, v4, m => (if v4 < (gI m 99 (ix (0 : Int32))) then bd2 (f_X11_lostIn v4 m) (fun r11 m10 => (if r11 = 0 then bd2 (f_X11_unitNow v4 v1 m10) (fun r13 m12 => (if r13 < 0 then f_X11_would_L49 k v1 v2 (v3 + (0 : Int32)) (v4 + (1 : Int32)) m12 else bd2 (f_X11_unitNow v4 v2 m12) (fun r15 m14 => (if r15 < 0 then f_X11_would_L49 k v1 v2 (v3 + (0 : Int32)) (v4 + (1 : Int32)) m14 else f_X11_would_L49 k v1 v2 (v3 + (1 : Int32)) (v4 + (1 : Int32)) m14)))) else f_X11_would_L49 k v1 v2 (v3 + (0 : Int32)) (v4 + (1 : Int32)) m10)) else some (v3, m))
theorem t_X11_would_L49 {X : XX} {G : GG} {ρ : Nat → Nat} {n t u w v : Nat} {x : Option Nat} {d : Nat} (hX : Ok X G ρ cX11_would 5 RX11 d) (hd0 : 2 ≤ d) (hn : 126 ≤ n) {rE : Int32} {mE : Mm} (hF : Fin' X G ρ n (some .int) (some (.int rE)) (RT t u w v x) mE) : ∀ (k : Nat) (v1 : Int32) (v2 : Int32) (v3 : Int32) (v4 : Int32) (m : Mm), f_X11_would_L49 k v1 v2 v3 v4 m = some (rE, mE) → J X G ρ n 5 49 [(0, .ref 78), (1, .int v1), (2, .int v2), (3, .int v3), (4, .int v4)] [] (RT t u w v x) m := by
  intro k
  induction k with
  | zero => intro _ _ _ _ _ h; rw [f_X11_would_L49] at h; cases h
  | succ k ih =>
    intro v1 v2 v3 v4 m h
    rw [f_X11_would_L49] at h
    refine J_iload hX dX11_would_49 4 rfl ?_
    refine J_aload_n hX dX11_would_51 rfl 0 rfl ?_
    refine J_getR hX dX11_would_52 fl_RX11_71 (ltn ltc_78 hn) lo_78 rfl (rt_78_32 _ _ _ _ _) ?_
    refine J_iconst hX (0 : Int32) dX11_would_55 ic_0 ?_
    refine J_iaload0 hX dX11_would_56 (ltn ltc_99 hn) lay_99 (by decide) ?_
    refine J_icmp_ge hX 103 dX11_would_57 (by decide) h (fun c h => ?_) (fun c h => ?_)
    · refine J_iload_n hX dX11_would_60 rfl 3 rfl ?_
      refine J_aload_n hX dX11_would_61 rfl 0 rfl ?_
      refine J_iload hX dX11_would_62 4 rfl ?_
      obtain ⟨r11, m10, h0, h⟩ := bd2_some h
      refine J_callVi (As := [.int v4]) (st := [.int v3]) hX dX11_would_64 cw_RX11_355 (by omega) (c_X11_lostIn hn  h0) (ltn ltc_78 hn) lo_78 (by decide) rfl rfl rfl (Nat.le_of_ble_eq_true rfl) ?_
      clear h0
      refine J_if_ne hX 94 dX11_would_67 (by decide) h (fun c h => ?_) (fun c h => ?_)
      · refine J_aload_n hX dX11_would_70 rfl 0 rfl ?_
        refine J_iload hX dX11_would_71 4 rfl ?_
        refine J_iload_n hX dX11_would_73 rfl 1 rfl ?_
        obtain ⟨r13, m12, h0, h⟩ := bd2_some h
        refine J_callVi (As := [.int v4, .int v1]) (st := [.int v3]) hX dX11_would_74 cw_RX11_460 (by omega) (c_X11_unitNow hn  h0) (ltn ltc_78 hn) lo_78 (by decide) rfl rfl rfl (Nat.le_of_ble_eq_true rfl) ?_
        clear h0
        refine J_if_lt hX 94 dX11_would_77 (by decide) h (fun c h => ?_) (fun c h => ?_)
        · refine J_iconst hX (0 : Int32) dX11_would_94 ic_0 ?_
          refine J_iadd hX dX11_would_95 ?_
          refine J_istore_n hX [(3, .int (v3 + (0 : Int32))), (0, .ref 78), (1, .int v1), (2, .int v2), (4, .int v4)] dX11_would_96 rfl (by decide) rfl ?_
          refine J_iinc hX (v4 + (1 : Int32)) [(4, .int (v4 + (1 : Int32))), (3, .int (v3 + (0 : Int32))), (0, .ref 78), (1, .int v1), (2, .int v2)] dX11_would_97 4 rfl (congrArg (fun z => v4 + z) ic_1) (by decide) rfl ?_
          refine J_goto hX 49 dX11_would_100 (by decide) ?_
          refine J_sub [(0, .ref 78), (1, .int v1), (2, .int v2), (3, .int (v3 + (0 : Int32))), (4, .int (v4 + (1 : Int32)))] [2, 3, 4, 1, 0] rfl ?_
          exact ih v1 v2 (v3 + (0 : Int32)) (v4 + (1 : Int32)) m12 h
        · refine J_aload_n hX dX11_would_80 rfl 0 rfl ?_
          refine J_iload hX dX11_would_81 4 rfl ?_
          refine J_iload_n hX dX11_would_83 rfl 2 rfl ?_
          obtain ⟨r15, m14, h0, h⟩ := bd2_some h
          refine J_callVi (As := [.int v4, .int v2]) (st := [.int v3]) hX dX11_would_84 cw_RX11_460 (by omega) (c_X11_unitNow hn  h0) (ltn ltc_78 hn) lo_78 (by decide) rfl rfl rfl (Nat.le_of_ble_eq_true rfl) ?_
          clear h0
          refine J_if_lt hX 94 dX11_would_87 (by decide) h (fun c h => ?_) (fun c h => ?_)
          · refine J_iconst hX (0 : Int32) dX11_would_94 ic_0 ?_
            refine J_iadd hX dX11_would_95 ?_
            refine J_istore_n hX [(3, .int (v3 + (0 : Int32))), (0, .ref 78), (1, .int v1), (2, .int v2), (4, .int v4)] dX11_would_96 rfl (by decide) rfl ?_
            refine J_iinc hX (v4 + (1 : Int32)) [(4, .int (v4 + (1 : Int32))), (3, .int (v3 + (0 : Int32))), (0, .ref 78), (1, .int v1), (2, .int v2)] dX11_would_97 4 rfl (congrArg (fun z => v4 + z) ic_1) (by decide) rfl ?_
            refine J_goto hX 49 dX11_would_100 (by decide) ?_
            refine J_sub [(0, .ref 78), (1, .int v1), (2, .int v2), (3, .int (v3 + (0 : Int32))), (4, .int (v4 + (1 : Int32)))] [2, 3, 4, 1, 0] rfl ?_
            exact ih v1 v2 (v3 + (0 : Int32)) (v4 + (1 : Int32)) m14 h
          · refine J_iconst hX (1 : Int32) dX11_would_90 ic_1 ?_
            refine J_goto hX 95 dX11_would_91 (by decide) ?_
            refine J_iadd hX dX11_would_95 ?_
            refine J_istore_n hX [(3, .int (v3 + (1 : Int32))), (0, .ref 78), (1, .int v1), (2, .int v2), (4, .int v4)] dX11_would_96 rfl (by decide) rfl ?_
            refine J_iinc hX (v4 + (1 : Int32)) [(4, .int (v4 + (1 : Int32))), (3, .int (v3 + (1 : Int32))), (0, .ref 78), (1, .int v1), (2, .int v2)] dX11_would_97 4 rfl (congrArg (fun z => v4 + z) ic_1) (by decide) rfl ?_
            refine J_goto hX 49 dX11_would_100 (by decide) ?_
            refine J_sub [(0, .ref 78), (1, .int v1), (2, .int v2), (3, .int (v3 + (1 : Int32))), (4, .int (v4 + (1 : Int32)))] [2, 3, 4, 1, 0] rfl ?_
            exact ih v1 v2 (v3 + (1 : Int32)) (v4 + (1 : Int32)) m14 h
      · refine J_iconst hX (0 : Int32) dX11_would_94 ic_0 ?_
        refine J_iadd hX dX11_would_95 ?_
        refine J_istore_n hX [(3, .int (v3 + (0 : Int32))), (0, .ref 78), (1, .int v1), (2, .int v2), (4, .int v4)] dX11_would_96 rfl (by decide) rfl ?_
        refine J_iinc hX (v4 + (1 : Int32)) [(4, .int (v4 + (1 : Int32))), (3, .int (v3 + (0 : Int32))), (0, .ref 78), (1, .int v1), (2, .int v2)] dX11_would_97 4 rfl (congrArg (fun z => v4 + z) ic_1) (by decide) rfl ?_
        refine J_goto hX 49 dX11_would_100 (by decide) ?_
        refine J_sub [(0, .ref 78), (1, .int v1), (2, .int v2), (3, .int (v3 + (0 : Int32))), (4, .int (v4 + (1 : Int32)))] [2, 3, 4, 1, 0] rfl ?_
        exact ih v1 v2 (v3 + (0 : Int32)) (v4 + (1 : Int32)) m10 h
    · refine J_iload_n hX dX11_would_103 rfl 3 rfl ?_
      exact J_ireturn hX dX11_would_104 h hF rfl
def f_X11_would (x1 : Int32) (x2 : Int32) (m : Mm) : Option (Int32 × Mm) := stI m 78 0 (0 : Int32) (fun m1 => bd2 (f_X11_isDisk x1 m1) (fun r3 m2 => (if r3 = 0 then some ((-1 : Int32), m2) else bd2 (f_X11_isDisk x2 m2) (fun r5 m4 => (if r5 = 0 then some ((-1 : Int32), m4) else (if x1 = x2 then some ((-1 : Int32), m4) else bd2 (f_X11_isUp x1 m4) (fun r7 m6 => (if r7 = 0 then some ((-1 : Int32), m6) else bd2 (f_X11_isUp x2 m6) (fun r9 m8 => (if r9 = 0 then some ((-1 : Int32), m8) else f_X11_would_L49 FU x1 x2 (0 : Int32) (0 : Int32)  m8))))))))))
theorem t_X11_would {X : XX} {G : GG} {ρ : Nat → Nat} {n t u w v : Nat} {x : Option Nat} {d : Nat} (hX : Ok X G ρ cX11_would 5 RX11 d) (hd0 : 2 ≤ d) (hn : 126 ≤ n) {rE : Int32} {mE : Mm} (hF : Fin' X G ρ n (some .int) (some (.int rE)) (RT t u w v x) mE) {x1 : Int32} {x2 : Int32} {m : Mm} (h : f_X11_would x1 x2 m = some (rE, mE)) : J X G ρ n 5 0 [(0, .ref 78), (1, .int x1), (2, .int x2)] [] (RT t u w v x) m := by
  unfold f_X11_would at h
  refine J_aload_n hX dX11_would_0 rfl 0 rfl ?_
  refine J_iconst hX (0 : Int32) dX11_would_1 ic_0 ?_
  refine J_putI hX dX11_would_2 pl_RX11_152 (ltn ltc_78 hn) lo_78 rfl rfl rfl h (fun m1 h => ?_)
  refine J_aload_n hX dX11_would_5 rfl 0 rfl ?_
  refine J_iload_n hX dX11_would_6 rfl 1 rfl ?_
  obtain ⟨r3, m2, h0, h⟩ := bd2_some h
  refine J_callVi (As := [.int x1]) (st := []) hX dX11_would_7 cw_RX11_385 (by omega) (c_X11_isDisk hn  h0) (ltn ltc_78 hn) lo_78 (by decide) rfl rfl rfl (Nat.le_of_ble_eq_true rfl) ?_
  clear h0
  refine J_if_eq hX 42 dX11_would_10 (by decide) h (fun c h => ?_) (fun c h => ?_)
  · refine J_iconst hX (-1 : Int32) dX11_would_42 ic_m1 ?_
    exact J_ireturn hX dX11_would_43 h hF rfl
  · refine J_aload_n hX dX11_would_13 rfl 0 rfl ?_
    refine J_iload_n hX dX11_would_14 rfl 2 rfl ?_
    obtain ⟨r5, m4, h0, h⟩ := bd2_some h
    refine J_callVi (As := [.int x2]) (st := []) hX dX11_would_15 cw_RX11_385 (by omega) (c_X11_isDisk hn  h0) (ltn ltc_78 hn) lo_78 (by decide) rfl rfl rfl (Nat.le_of_ble_eq_true rfl) ?_
    clear h0
    refine J_if_eq hX 42 dX11_would_18 (by decide) h (fun c h => ?_) (fun c h => ?_)
    · refine J_iconst hX (-1 : Int32) dX11_would_42 ic_m1 ?_
      exact J_ireturn hX dX11_would_43 h hF rfl
    · refine J_iload_n hX dX11_would_21 rfl 1 rfl ?_
      refine J_iload_n hX dX11_would_22 rfl 2 rfl ?_
      refine J_icmp_eq hX 42 dX11_would_23 (by decide) h (fun c h => ?_) (fun c h => ?_)
      · refine J_iconst hX (-1 : Int32) dX11_would_42 ic_m1 ?_
        exact J_ireturn hX dX11_would_43 h hF rfl
      · refine J_aload_n hX dX11_would_26 rfl 0 rfl ?_
        refine J_iload_n hX dX11_would_27 rfl 1 rfl ?_
        obtain ⟨r7, m6, h0, h⟩ := bd2_some h
        refine J_callVi (As := [.int x1]) (st := []) hX dX11_would_28 cw_RX11_373 (by omega) (c_X11_isUp hn  h0) (ltn ltc_78 hn) lo_78 (by decide) rfl rfl rfl (Nat.le_of_ble_eq_true rfl) ?_
        clear h0
        refine J_if_eq hX 42 dX11_would_31 (by decide) h (fun c h => ?_) (fun c h => ?_)
        · refine J_iconst hX (-1 : Int32) dX11_would_42 ic_m1 ?_
          exact J_ireturn hX dX11_would_43 h hF rfl
        · refine J_aload_n hX dX11_would_34 rfl 0 rfl ?_
          refine J_iload_n hX dX11_would_35 rfl 2 rfl ?_
          obtain ⟨r9, m8, h0, h⟩ := bd2_some h
          refine J_callVi (As := [.int x2]) (st := []) hX dX11_would_36 cw_RX11_373 (by omega) (c_X11_isUp hn  h0) (ltn ltc_78 hn) lo_78 (by decide) rfl rfl rfl (Nat.le_of_ble_eq_true rfl) ?_
          clear h0
          refine J_if_ne hX 44 dX11_would_39 (by decide) h (fun c h => ?_) (fun c h => ?_)
          · refine J_iconst hX (-1 : Int32) dX11_would_42 ic_m1 ?_
            exact J_ireturn hX dX11_would_43 h hF rfl
          · refine J_iconst hX (0 : Int32) dX11_would_44 ic_0 ?_
            refine J_istore_n hX [(3, .int (0 : Int32)), (0, .ref 78), (1, .int x1), (2, .int x2)] dX11_would_45 rfl (by decide) rfl ?_
            refine J_iconst hX (0 : Int32) dX11_would_46 ic_0 ?_
            refine J_istore hX [(4, .int (0 : Int32)), (3, .int (0 : Int32)), (0, .ref 78), (1, .int x1), (2, .int x2)] dX11_would_47 (by decide) rfl ?_
            refine J_sub [(0, .ref 78), (1, .int x1), (2, .int x2), (3, .int (0 : Int32)), (4, .int (0 : Int32))] [2, 3, 4, 1, 0] rfl ?_
            exact t_X11_would_L49 hX hd0 hn hF FU x1 x2 (0 : Int32) (0 : Int32)  m8 h
theorem c_X11_would {G : GG} {l : Launch} {ρ : Nat → Nat} {n t u w v : Nat} {x : Option Nat} (hn : 126 ≤ n) {x1 : Int32} {x2 : Int32} {m : Mm} {rE : Int32} {mE : Mm} (h : f_X11_would x1 x2 m = some (rE, mE)) : CT G l yX11_would cX11_would 5 (some .int) 2 0 0 ρ n (RT t u w v x) [.ref 78, .int x1, .int x2] m (some (.int rE)) (RT t u w v x) mE := ct_of_J (by decide) rfl (Nat.le_of_ble_eq_true rfl) (fun X hX e1 e2 e3 e4 hQ hr hl => t_X11_would hX (Nat.le_refl _) hn ⟨by rw [hQ, e3, e4], hr, hl⟩ h)
def f_X10_time_J28 (t : Nat) (u : Nat) (w : Nat) (v : Nat) (v1 : Int32) (v2 : Int32) (s0 : Int32) (m : Mm) : Option (Int32 × Mm) := (if s0 = 0 then some ((-1 : Int32), m) else bd2 (f_X8_pace t m) (fun r4 m3 => bd2 (f_X5_ticks v1 (r4 - v2) m3) (fun r6 m5 => some (r6, m5))))
theorem t_X10_time_J28 {X : XX} {G : GG} {ρ : Nat → Nat} {n : Nat} {x : Option Nat} {d : Nat} {t : Nat} {u : Nat} {w : Nat} {v : Nat} (hX : Ok X G ρ cX10_time 4 RX10 d) (hd0 : 4 ≤ d) (hn : 126 ≤ n) (ht : isTo t) (hu : isTo u) (hw : isWk w) (hv : isWk v) {rE : Int32} {mE : Mm} (hF : Fin' X G ρ n (some .int) (some (.int rE)) (RT t u w v x) mE) (v1 : Int32) (v2 : Int32) (s0 : Int32) (m : Mm) (h : f_X10_time_J28 t u w v v1 v2 s0 m = some (rE, mE)) : J X G ρ n 4 28 [(0, .ref 0), (1, .int v1), (2, .int v2)] [.int s0] (RT t u w v x) m := by
  unfold f_X10_time_J28 at h
  refine J_istore_n hX [(3, .int s0), (0, .ref 0), (1, .int v1), (2, .int v2)] dX10_time_28 rfl (by decide) rfl ?_
  refine J_iload_n hX dX10_time_29 rfl 0 rfl ?_
  refine J_if_eq hX 53 dX10_time_30 (by decide) h (fun c h => ?_) (fun c h => ?_)
  · refine J_iconst hX (-1 : Int32) dX10_time_53 ic_m1 ?_
    exact J_ireturn hX dX10_time_54 h hF rfl
  · refine J_aload_n hX dX10_time_33 rfl 1 rfl ?_
    refine J_getR hX dX10_time_34 fl_RX10_80 (ltn ltc_0 hn) lo_0 rfl (rt_0_12 _ _ _ _ _) ?_
    refine J_iload_n hX dX10_time_37 rfl 2 rfl ?_
    refine J_aload_n hX dX10_time_38 rfl 1 rfl ?_
    refine J_getR hX dX10_time_39 fl_RX10_28 (ltn ltc_0 hn) lo_0 rfl (rt_0_2 _ _ _ _ _) ?_
    obtain ⟨r4, m3, h0, h⟩ := bd2_some h
    refine J_callVi (As := []) (st := [.int v1, .ref 76]) hX dX10_time_42 cw_RX10_273 (by omega) (c_X8_pace hn ht h0) (ltn (lt_isTo_0 ht) hn) (lo_isTo_0 ht) (by decide) rfl rfl rfl (Nat.le_of_ble_eq_true rfl) ?_
    clear h0
    refine J_iload_n hX dX10_time_45 rfl 3 rfl ?_
    refine J_isub hX dX10_time_46 ?_
    obtain ⟨r6, m5, h0, h⟩ := bd2_some h
    refine J_callVi (As := [.int v1, .int (r4 - v2)]) (st := []) hX dX10_time_47 cw_RX10_276 (by omega) (c_X5_ticks hn  h0) (ltn ltc_76 hn) lo_76 (by decide) rfl rfl rfl (Nat.le_of_ble_eq_true rfl) ?_
    clear h0
    refine J_goto hX 54 dX10_time_50 (by decide) ?_
    exact J_ireturn hX dX10_time_54 h hF rfl
def f_X10_time_J27 (t : Nat) (u : Nat) (w : Nat) (v : Nat) (v1 : Int32) (v2 : Int32) (m : Mm) : Option (Int32 × Mm) := f_X10_time_J28 t u w v v1 v2 (0 : Int32) m
theorem t_X10_time_J27 {X : XX} {G : GG} {ρ : Nat → Nat} {n : Nat} {x : Option Nat} {d : Nat} {t : Nat} {u : Nat} {w : Nat} {v : Nat} (hX : Ok X G ρ cX10_time 4 RX10 d) (hd0 : 4 ≤ d) (hn : 126 ≤ n) (ht : isTo t) (hu : isTo u) (hw : isWk w) (hv : isWk v) {rE : Int32} {mE : Mm} (hF : Fin' X G ρ n (some .int) (some (.int rE)) (RT t u w v x) mE) (v1 : Int32) (v2 : Int32) (m : Mm) (h : f_X10_time_J27 t u w v v1 v2 m = some (rE, mE)) : J X G ρ n 4 27 [(0, .ref 0), (1, .int v1), (2, .int v2)] [] (RT t u w v x) m := by
  unfold f_X10_time_J27 at h
  refine J_iconst hX (0 : Int32) dX10_time_27 ic_0 ?_
  exact t_X10_time_J28 hX hd0 hn ht hu hw hv hF v1 v2 (0 : Int32) m h
def f_X10_time (t : Nat) (u : Nat) (w : Nat) (v : Nat) (x1 : Int32) (x2 : Int32) (m : Mm) : Option (Int32 × Mm) := bd2 (f_X10_isUpDisk t u w v x1 m) (fun r2 m1 => (if r2 = 0 then f_X10_time_J27 t u w v x1 x2  m1 else (if x2 < 0 then f_X10_time_J27 t u w v x1 x2  m1 else bd2 (f_X8_pace t m1) (fun r8 m7 => (if x2 < r8 then f_X10_time_J28 t u w v x1 x2 (1 : Int32) m7 else f_X10_time_J27 t u w v x1 x2  m7)))))
theorem t_X10_time {X : XX} {G : GG} {ρ : Nat → Nat} {n : Nat} {x : Option Nat} {d : Nat} {t : Nat} {u : Nat} {w : Nat} {v : Nat} (hX : Ok X G ρ cX10_time 4 RX10 d) (hd0 : 4 ≤ d) (hn : 126 ≤ n) (ht : isTo t) (hu : isTo u) (hw : isWk w) (hv : isWk v) {rE : Int32} {mE : Mm} (hF : Fin' X G ρ n (some .int) (some (.int rE)) (RT t u w v x) mE) {x1 : Int32} {x2 : Int32} {m : Mm} (h : f_X10_time t u w v x1 x2 m = some (rE, mE)) : J X G ρ n 4 0 [(0, .ref 0), (1, .int x1), (2, .int x2)] [] (RT t u w v x) m := by
  unfold f_X10_time at h
  refine J_aload_n hX dX10_time_0 rfl 0 rfl ?_
  refine J_iload_n hX dX10_time_1 rfl 1 rfl ?_
  obtain ⟨r2, m1, h0, h⟩ := bd2_some h
  refine J_callVi (As := [.int x1]) (st := []) hX dX10_time_2 cw_RX10_267 (by omega) (c_X10_isUpDisk hn ht hu hw hv h0) (ltn ltc_0 hn) lo_0 (by decide) rfl rfl rfl (Nat.le_of_ble_eq_true rfl) ?_
  clear h0
  refine J_if_eq hX 27 dX10_time_5 (by decide) h (fun c h => ?_) (fun c h => ?_)
  · exact t_X10_time_J27 hX hd0 hn ht hu hw hv hF x1 x2  m1 h
  · refine J_iload_n hX dX10_time_8 rfl 2 rfl ?_
    refine J_if_lt hX 27 dX10_time_9 (by decide) h (fun c h => ?_) (fun c h => ?_)
    · exact t_X10_time_J27 hX hd0 hn ht hu hw hv hF x1 x2  m1 h
    · refine J_iload_n hX dX10_time_12 rfl 2 rfl ?_
      refine J_aload_n hX dX10_time_13 rfl 0 rfl ?_
      refine J_getR hX dX10_time_14 fl_RX10_28 (ltn ltc_0 hn) lo_0 rfl (rt_0_2 _ _ _ _ _) ?_
      obtain ⟨r8, m7, h0, h⟩ := bd2_some h
      refine J_callVi (As := []) (st := [.int x2]) hX dX10_time_17 cw_RX10_273 (by omega) (c_X8_pace hn ht h0) (ltn (lt_isTo_0 ht) hn) (lo_isTo_0 ht) (by decide) rfl rfl rfl (Nat.le_of_ble_eq_true rfl) ?_
      clear h0
      refine J_icmp_ge hX 27 dX10_time_20 (by decide) h (fun c h => ?_) (fun c h => ?_)
      · refine J_iconst hX (1 : Int32) dX10_time_23 ic_1 ?_
        refine J_goto hX 28 dX10_time_24 (by decide) ?_
        exact t_X10_time_J28 hX hd0 hn ht hu hw hv hF x1 x2 (1 : Int32) m7 h
      · exact t_X10_time_J27 hX hd0 hn ht hu hw hv hF x1 x2  m7 h
theorem c_X10_time {G : GG} {l : Launch} {ρ : Nat → Nat} {n : Nat} {x : Option Nat} (hn : 126 ≤ n) {t : Nat} {u : Nat} {w : Nat} {v : Nat} (ht : isTo t) (hu : isTo u) (hw : isWk w) (hv : isWk v) {x1 : Int32} {x2 : Int32} {m : Mm} {rE : Int32} {mE : Mm} (h : f_X10_time t u w v x1 x2 m = some (rE, mE)) : CT G l yX10_time cX10_time 4 (some .int) 4 0 0 ρ n (RT t u w v x) [.ref 0, .int x1, .int x2] m (some (.int rE)) (RT t u w v x) mE := ct_of_J (by decide) rfl (Nat.le_of_ble_eq_true rfl) (fun X hX e1 e2 e3 e4 hQ hr hl => t_X10_time hX (Nat.le_refl _) hn ht hu hw hv ⟨by rw [hQ, e3, e4], hr, hl⟩ h)
def f_X11_time_L156 (v1 : Int32) (v2 : Int32) (v3 : Int32) (v4 : Int32) (K : Mm → Option (Int32 × Mm)) : Nat → Int32 → Mm → Option (Int32 × Mm)
  | 0, _, _ => none
  | k + 1, v5, m => (if v5 < (13 : Int32) then gd (inb v5 13) (stI m 123 (ix v5) ((gI m 80 (ix (2 : Int32))) - v2) (fun m8 => f_X11_time_L156 v1 v2 v3 v4 K k (v5 + (1 : Int32)) m8)) else K  m)
theorem t_X11_time_L156 {X : XX} {G : GG} {ρ : Nat → Nat} {n t u w v : Nat} {x : Option Nat} {d : Nat} (hX : Ok X G ρ cX11_time 6 RX11 d) (hd0 : 2 ≤ d) (hn : 126 ≤ n) {rE : Int32} {mE : Mm} (hF : Fin' X G ρ n (some .int) (some (.int rE)) (RT t u w v x) mE) {v1 : Int32} {v2 : Int32} {v3 : Int32} {v4 : Int32} {K : Mm → Option (Int32 × Mm)} (hK : ∀ (m : Mm), K m = some (rE, mE) → J X G ρ n 6 184 [(0, .ref 78), (1, .int v1), (2, .int v2), (3, .int v3), (4, .int v4)] [] (RT t u w v x) m) : ∀ (k : Nat) (v5 : Int32) (m : Mm), f_X11_time_L156 v1 v2 v3 v4 K k v5 m = some (rE, mE) → J X G ρ n 6 156 [(0, .ref 78), (1, .int v1), (2, .int v2), (3, .int v3), (4, .int v4), (5, .int v5)] [] (RT t u w v x) m := by
  intro k
  induction k with
  | zero => intro _ _ h; rw [f_X11_time_L156] at h; cases h
  | succ k ih =>
    intro v5 m h
    rw [f_X11_time_L156] at h
    refine J_iload hX dX11_time_156 5 rfl ?_
    refine J_bipush hX (13 : Int32) dX11_time_158 (by decide) ?_
    refine J_icmp_ge hX 184 dX11_time_160 (by decide) h (fun c h => ?_) (fun c h => ?_)
    · refine J_aload_n hX dX11_time_163 rfl 0 rfl ?_
      refine J_getR hX dX11_time_164 fl_RX11_143 (ltn ltc_78 hn) lo_78 rfl (rt_78_56 _ _ _ _ _) ?_
      refine J_iload hX dX11_time_167 5 rfl ?_
      refine J_aload_n hX dX11_time_169 rfl 0 rfl ?_
      refine J_getR hX dX11_time_170 fl_RX11_13 (ltn ltc_78 hn) lo_78 rfl (rt_78_10 _ _ _ _ _) ?_
      refine J_iconst hX (2 : Int32) dX11_time_173 ic_2 ?_
      refine J_iaload0 hX dX11_time_174 (ltn ltc_80 hn) lay_80 (by decide) ?_
      refine J_iload_n hX dX11_time_175 rfl 2 rfl ?_
      refine J_isub hX dX11_time_176 ?_
      refine J_iastore hX dX11_time_177 (ltn ltc_123 hn) lay_123 h (fun m8 h => ?_)
      refine J_iinc hX (v5 + (1 : Int32)) [(5, .int (v5 + (1 : Int32))), (0, .ref 78), (1, .int v1), (2, .int v2), (3, .int v3), (4, .int v4)] dX11_time_178 5 rfl (congrArg (fun z => v5 + z) ic_1) (by decide) rfl ?_
      refine J_goto hX 156 dX11_time_181 (by decide) ?_
      refine J_sub [(0, .ref 78), (1, .int v1), (2, .int v2), (3, .int v3), (4, .int v4), (5, .int (v5 + (1 : Int32)))] [1, 2, 3, 4, 5, 0] rfl ?_
      exact ih (v5 + (1 : Int32)) m8 h
    · refine J_sub [(0, .ref 78), (1, .int v1), (2, .int v2), (3, .int v3), (4, .int v4)] [0, 1, 2, 3, 4] rfl ?_
      exact hK  m h
def f_X11_time_L187 (v1 : Int32) (v2 : Int32) (v4 : Int32) (K : Int32 → Mm → Option (Int32 × Mm)) : Nat → Int32 → Int32 → Mm → Option (Int32 × Mm)
  | 0, _, _, _ => none
  | k + 1, v3, v5, m => (if v5 < (gI m 99 (ix (0 : Int32))) then gd (inb v5 40) ((if (gI m 122 (ix v5)) = 0 then f_X11_time_L187 v1 v2 v4 K k v3 (v5 + (1 : Int32)) m else bd2 (f_X11_fitsIn v5 v1 m) (fun r11 m10 => (if r11 = 0 then f_X11_time_L187 v1 v2 v4 K k v3 (v5 + (1 : Int32)) m10 else gd (inb v5 40) (stI m10 122 (ix v5) (0 : Int32) (fun m12 => f_X11_time_L187 v1 v2 v4 K k (v3 + (-1 : Int32)) (v5 + (1 : Int32)) m12)))))) else K v3 m)
theorem t_X11_time_L187 {X : XX} {G : GG} {ρ : Nat → Nat} {n t u w v : Nat} {x : Option Nat} {d : Nat} (hX : Ok X G ρ cX11_time 6 RX11 d) (hd0 : 2 ≤ d) (hn : 126 ≤ n) {rE : Int32} {mE : Mm} (hF : Fin' X G ρ n (some .int) (some (.int rE)) (RT t u w v x) mE) {v1 : Int32} {v2 : Int32} {v4 : Int32} {K : Int32 → Mm → Option (Int32 × Mm)} (hK : ∀ (w3 : Int32) (m : Mm), K w3 m = some (rE, mE) → J X G ρ n 6 238 [(0, .ref 78), (1, .int v1), (2, .int v2), (3, .int w3), (4, .int v4)] [] (RT t u w v x) m) : ∀ (k : Nat) (v3 : Int32) (v5 : Int32) (m : Mm), f_X11_time_L187 v1 v2 v4 K k v3 v5 m = some (rE, mE) → J X G ρ n 6 187 [(0, .ref 78), (1, .int v1), (2, .int v2), (3, .int v3), (4, .int v4), (5, .int v5)] [] (RT t u w v x) m := by
  intro k
  induction k with
  | zero => intro _ _ _ h; rw [f_X11_time_L187] at h; cases h
  | succ k ih =>
    intro v3 v5 m h
    rw [f_X11_time_L187] at h
    refine J_iload hX dX11_time_187 5 rfl ?_
    refine J_aload_n hX dX11_time_189 rfl 0 rfl ?_
    refine J_getR hX dX11_time_190 fl_RX11_71 (ltn ltc_78 hn) lo_78 rfl (rt_78_32 _ _ _ _ _) ?_
    refine J_iconst hX (0 : Int32) dX11_time_193 ic_0 ?_
    refine J_iaload0 hX dX11_time_194 (ltn ltc_99 hn) lay_99 (by decide) ?_
    refine J_icmp_ge hX 238 dX11_time_195 (by decide) h (fun c h => ?_) (fun c h => ?_)
    · refine J_aload_n hX dX11_time_198 rfl 0 rfl ?_
      refine J_getR hX dX11_time_199 fl_RX11_140 (ltn ltc_78 hn) lo_78 rfl (rt_78_55 _ _ _ _ _) ?_
      refine J_iload hX dX11_time_202 5 rfl ?_
      refine J_baload hX dX11_time_204 (ltn ltc_122 hn) lay_122 h (fun h => ?_)
      refine J_if_eq hX 232 dX11_time_205 (by decide) h (fun c h => ?_) (fun c h => ?_)
      · refine J_iinc hX (v5 + (1 : Int32)) [(5, .int (v5 + (1 : Int32))), (0, .ref 78), (1, .int v1), (2, .int v2), (3, .int v3), (4, .int v4)] dX11_time_232 5 rfl (congrArg (fun z => v5 + z) ic_1) (by decide) rfl ?_
        refine J_goto hX 187 dX11_time_235 (by decide) ?_
        refine J_sub [(0, .ref 78), (1, .int v1), (2, .int v2), (3, .int v3), (4, .int v4), (5, .int (v5 + (1 : Int32)))] [1, 2, 3, 4, 5, 0] rfl ?_
        exact ih v3 (v5 + (1 : Int32)) m h
      · refine J_aload_n hX dX11_time_208 rfl 0 rfl ?_
        refine J_iload hX dX11_time_209 5 rfl ?_
        refine J_iload_n hX dX11_time_211 rfl 1 rfl ?_
        obtain ⟨r11, m10, h0, h⟩ := bd2_some h
        refine J_callVi (As := [.int v5, .int v1]) (st := []) hX dX11_time_212 cw_RX11_463 (by omega) (c_X11_fitsIn hn  h0) (ltn ltc_78 hn) lo_78 (by decide) rfl rfl rfl (Nat.le_of_ble_eq_true rfl) ?_
        clear h0
        refine J_if_ne hX 221 dX11_time_215 (by decide) h (fun c h => ?_) (fun c h => ?_)
        · refine J_goto hX 232 dX11_time_218 (by decide) ?_
          refine J_iinc hX (v5 + (1 : Int32)) [(5, .int (v5 + (1 : Int32))), (0, .ref 78), (1, .int v1), (2, .int v2), (3, .int v3), (4, .int v4)] dX11_time_232 5 rfl (congrArg (fun z => v5 + z) ic_1) (by decide) rfl ?_
          refine J_goto hX 187 dX11_time_235 (by decide) ?_
          refine J_sub [(0, .ref 78), (1, .int v1), (2, .int v2), (3, .int v3), (4, .int v4), (5, .int (v5 + (1 : Int32)))] [1, 2, 3, 4, 5, 0] rfl ?_
          exact ih v3 (v5 + (1 : Int32)) m10 h
        · refine J_aload_n hX dX11_time_221 rfl 0 rfl ?_
          refine J_getR hX dX11_time_222 fl_RX11_140 (ltn ltc_78 hn) lo_78 rfl (rt_78_55 _ _ _ _ _) ?_
          refine J_iload hX dX11_time_225 5 rfl ?_
          refine J_iconst hX (0 : Int32) dX11_time_227 ic_0 ?_
          refine J_bastore hX dX11_time_228 (ltn ltc_122 hn) lay_122 vz0 h (fun m12 h => ?_)
          refine J_iinc hX (v3 + (-1 : Int32)) [(3, .int (v3 + (-1 : Int32))), (0, .ref 78), (1, .int v1), (2, .int v2), (4, .int v4), (5, .int v5)] dX11_time_229 3 rfl (congrArg (fun z => v3 + z) ic_m1) (by decide) rfl ?_
          refine J_iinc hX (v5 + (1 : Int32)) [(5, .int (v5 + (1 : Int32))), (3, .int (v3 + (-1 : Int32))), (0, .ref 78), (1, .int v1), (2, .int v2), (4, .int v4)] dX11_time_232 5 rfl (congrArg (fun z => v5 + z) ic_1) (by decide) rfl ?_
          refine J_goto hX 187 dX11_time_235 (by decide) ?_
          refine J_sub [(0, .ref 78), (1, .int v1), (2, .int v2), (3, .int (v3 + (-1 : Int32))), (4, .int v4), (5, .int (v5 + (1 : Int32)))] [2, 3, 4, 1, 5, 0] rfl ?_
          exact ih (v3 + (-1 : Int32)) (v5 + (1 : Int32)) m12 h
    · refine J_sub [(0, .ref 78), (1, .int v1), (2, .int v2), (3, .int v3), (4, .int v4)] [0, 1, 2, 3, 4] rfl ?_
      exact hK v3 m h
def f_X11_time_L146 : Nat → Int32 → Int32 → Int32 → Int32 →  Mm → Option (Int32 × Mm)
  | 0, _, _, _, _, _ => none
  | k + 1, v1, v2, v3, v4, m => (if 0 < v3 then f_X11_time_L156 v1 v2 v3 (v4 + (1 : Int32)) (fun m9 => f_X11_time_L187 v1 v2 (v4 + (1 : Int32)) (fun w13 m14 => f_X11_time_L146 k v1 v2 w13 (v4 + (1 : Int32)) m14) FU v3 (0 : Int32) m9) FU (0 : Int32) m else some (v4, m))
theorem t_X11_time_L146 {X : XX} {G : GG} {ρ : Nat → Nat} {n t u w v : Nat} {x : Option Nat} {d : Nat} (hX : Ok X G ρ cX11_time 6 RX11 d) (hd0 : 2 ≤ d) (hn : 126 ≤ n) {rE : Int32} {mE : Mm} (hF : Fin' X G ρ n (some .int) (some (.int rE)) (RT t u w v x) mE) : ∀ (k : Nat) (v1 : Int32) (v2 : Int32) (v3 : Int32) (v4 : Int32) (m : Mm), f_X11_time_L146 k v1 v2 v3 v4 m = some (rE, mE) → J X G ρ n 6 146 [(0, .ref 78), (1, .int v1), (2, .int v2), (3, .int v3), (4, .int v4)] [] (RT t u w v x) m := by
  intro k
  induction k with
  | zero => intro _ _ _ _ _ h; rw [f_X11_time_L146] at h; cases h
  | succ k ih =>
    intro v1 v2 v3 v4 m h
    rw [f_X11_time_L146] at h
    refine J_iload_n hX dX11_time_146 rfl 3 rfl ?_
    refine J_if_le hX 241 dX11_time_147 (by decide) h (fun c h => ?_) (fun c h => ?_)
    · refine J_iinc hX (v4 + (1 : Int32)) [(4, .int (v4 + (1 : Int32))), (0, .ref 78), (1, .int v1), (2, .int v2), (3, .int v3)] dX11_time_150 4 rfl (congrArg (fun z => v4 + z) ic_1) (by decide) rfl ?_
      refine J_iconst hX (0 : Int32) dX11_time_153 ic_0 ?_
      refine J_istore hX [(5, .int (0 : Int32)), (4, .int (v4 + (1 : Int32))), (0, .ref 78), (1, .int v1), (2, .int v2), (3, .int v3)] dX11_time_154 (by decide) rfl ?_
      refine J_sub [(0, .ref 78), (1, .int v1), (2, .int v2), (3, .int v3), (4, .int (v4 + (1 : Int32))), (5, .int (0 : Int32))] [2, 3, 4, 5, 1, 0] rfl ?_
      refine t_X11_time_L156 hX hd0 hn hF (fun m9 h => ?_) FU (0 : Int32) m h
      refine J_iconst hX (0 : Int32) dX11_time_184 ic_0 ?_
      refine J_istore hX [(5, .int (0 : Int32)), (0, .ref 78), (1, .int v1), (2, .int v2), (3, .int v3), (4, .int (v4 + (1 : Int32)))] dX11_time_185 (by decide) rfl ?_
      refine J_sub [(0, .ref 78), (1, .int v1), (2, .int v2), (3, .int v3), (4, .int (v4 + (1 : Int32))), (5, .int (0 : Int32))] [1, 2, 3, 4, 5, 0] rfl ?_
      refine t_X11_time_L187 hX hd0 hn hF (fun w13 m14 h => ?_) FU v3 (0 : Int32) m9 h
      refine J_goto hX 146 dX11_time_238 (by decide) ?_
      exact ih v1 v2 w13 (v4 + (1 : Int32)) m14 h
    · refine J_iload hX dX11_time_241 4 rfl ?_
      exact J_ireturn hX dX11_time_243 h hF rfl
def f_X11_time_J118 (K44 : Int32 → Int32 → Int32 → Int32 → Mm → Option (Int32 × Mm)) (v1 : Int32) (v2 : Int32) (v3 : Int32) (v4 : Int32) (s0 : Int32) (s1 : Int32) (m : Mm) : Option (Int32 × Mm) := gd (isB s0) (gd (inb s1 40) (stI m 122 (ix s1) s0 (fun m17 => gd (inb v4 40) ((if (gI m17 122 (ix v4)) = 0 then K44 v1 v2 (v3 + (0 : Int32)) (v4 + (1 : Int32)) m17 else K44 v1 v2 (v3 + (1 : Int32)) (v4 + (1 : Int32)) m17)))))
theorem t_X11_time_J118 {X : XX} {G : GG} {ρ : Nat → Nat} {n t u w v : Nat} {x : Option Nat} {d : Nat} (hX : Ok X G ρ cX11_time 6 RX11 d) (hd0 : 2 ≤ d) (hn : 126 ≤ n) {rE : Int32} {mE : Mm} (hF : Fin' X G ρ n (some .int) (some (.int rE)) (RT t u w v x) mE) {K44 : Int32 → Int32 → Int32 → Int32 → Mm → Option (Int32 × Mm)} (v1 : Int32) (v2 : Int32) (v3 : Int32) (v4 : Int32) (s0 : Int32) (s1 : Int32) (hK44 : ∀ (w1 : Int32) (w2 : Int32) (w3 : Int32) (w4 : Int32) (m : Mm), K44 w1 w2 w3 w4 m = some (rE, mE) → J X G ρ n 6 44 [(0, .ref 78), (1, .int w1), (2, .int w2), (3, .int w3), (4, .int w4)] [] (RT t u w v x) m) (m : Mm) (h : f_X11_time_J118 K44 v1 v2 v3 v4 s0 s1 m = some (rE, mE)) : J X G ρ n 6 118 [(0, .ref 78), (1, .int v1), (2, .int v2), (3, .int v3), (4, .int v4)] [.int s0, .int s1, .ref 122] (RT t u w v x) m := by
  unfold f_X11_time_J118 at h
  obtain ⟨gB, h⟩ := gd_some h
  refine J_bastore hX dX11_time_118 (ltn ltc_122 hn) lay_122 (vzB gB) h (fun m17 h => ?_)
  refine J_iload_n hX dX11_time_119 rfl 3 rfl ?_
  refine J_aload_n hX dX11_time_120 rfl 0 rfl ?_
  refine J_getR hX dX11_time_121 fl_RX11_140 (ltn ltc_78 hn) lo_78 rfl (rt_78_55 _ _ _ _ _) ?_
  refine J_iload hX dX11_time_124 4 rfl ?_
  refine J_baload hX dX11_time_126 (ltn ltc_122 hn) lay_122 h (fun h => ?_)
  refine J_if_eq hX 134 dX11_time_127 (by decide) h (fun c h => ?_) (fun c h => ?_)
  · refine J_iconst hX (0 : Int32) dX11_time_134 ic_0 ?_
    refine J_iadd hX dX11_time_135 ?_
    refine J_istore_n hX [(3, .int (v3 + (0 : Int32))), (0, .ref 78), (1, .int v1), (2, .int v2), (4, .int v4)] dX11_time_136 rfl (by decide) rfl ?_
    refine J_iinc hX (v4 + (1 : Int32)) [(4, .int (v4 + (1 : Int32))), (3, .int (v3 + (0 : Int32))), (0, .ref 78), (1, .int v1), (2, .int v2)] dX11_time_137 4 rfl (congrArg (fun z => v4 + z) ic_1) (by decide) rfl ?_
    refine J_goto hX 44 dX11_time_140 (by decide) ?_
    refine J_sub [(0, .ref 78), (1, .int v1), (2, .int v2), (3, .int (v3 + (0 : Int32))), (4, .int (v4 + (1 : Int32)))] [2, 3, 4, 1, 0] rfl ?_
    exact hK44 v1 v2 (v3 + (0 : Int32)) (v4 + (1 : Int32)) m17 h
  · refine J_iconst hX (1 : Int32) dX11_time_130 ic_1 ?_
    refine J_goto hX 135 dX11_time_131 (by decide) ?_
    refine J_iadd hX dX11_time_135 ?_
    refine J_istore_n hX [(3, .int (v3 + (1 : Int32))), (0, .ref 78), (1, .int v1), (2, .int v2), (4, .int v4)] dX11_time_136 rfl (by decide) rfl ?_
    refine J_iinc hX (v4 + (1 : Int32)) [(4, .int (v4 + (1 : Int32))), (3, .int (v3 + (1 : Int32))), (0, .ref 78), (1, .int v1), (2, .int v2)] dX11_time_137 4 rfl (congrArg (fun z => v4 + z) ic_1) (by decide) rfl ?_
    refine J_goto hX 44 dX11_time_140 (by decide) ?_
    refine J_sub [(0, .ref 78), (1, .int v1), (2, .int v2), (3, .int (v3 + (1 : Int32))), (4, .int (v4 + (1 : Int32)))] [2, 3, 4, 1, 0] rfl ?_
    exact hK44 v1 v2 (v3 + (1 : Int32)) (v4 + (1 : Int32)) m17 h
def f_X11_time_J117 (K44 : Int32 → Int32 → Int32 → Int32 → Mm → Option (Int32 × Mm)) (v1 : Int32) (v2 : Int32) (v3 : Int32) (v4 : Int32) (s0 : Int32) (m : Mm) : Option (Int32 × Mm) := f_X11_time_J118 K44 v1 v2 v3 v4 (0 : Int32) s0 m
theorem t_X11_time_J117 {X : XX} {G : GG} {ρ : Nat → Nat} {n t u w v : Nat} {x : Option Nat} {d : Nat} (hX : Ok X G ρ cX11_time 6 RX11 d) (hd0 : 2 ≤ d) (hn : 126 ≤ n) {rE : Int32} {mE : Mm} (hF : Fin' X G ρ n (some .int) (some (.int rE)) (RT t u w v x) mE) {K44 : Int32 → Int32 → Int32 → Int32 → Mm → Option (Int32 × Mm)} (v1 : Int32) (v2 : Int32) (v3 : Int32) (v4 : Int32) (s0 : Int32) (hK44 : ∀ (w1 : Int32) (w2 : Int32) (w3 : Int32) (w4 : Int32) (m : Mm), K44 w1 w2 w3 w4 m = some (rE, mE) → J X G ρ n 6 44 [(0, .ref 78), (1, .int w1), (2, .int w2), (3, .int w3), (4, .int w4)] [] (RT t u w v x) m) (m : Mm) (h : f_X11_time_J117 K44 v1 v2 v3 v4 s0 m = some (rE, mE)) : J X G ρ n 6 117 [(0, .ref 78), (1, .int v1), (2, .int v2), (3, .int v3), (4, .int v4)] [.int s0, .ref 122] (RT t u w v x) m := by
  unfold f_X11_time_J117 at h
  refine J_iconst hX (0 : Int32) dX11_time_117 ic_0 ?_
  exact t_X11_time_J118 hX hd0 hn hF v1 v2 v3 v4 (0 : Int32) s0 hK44 m h
def f_X11_time_L44 : Nat → Int32 → Int32 → Int32 → Int32 →  Mm → Option (Int32 × Mm)
  | 0, _, _, _, _, _ => none
  | k + 1, v1, v2, v3, v4, m => (if v4 < (gI m 99 (ix (0 : Int32))) then bd2 (f_X11_lostIn v4 m) (fun r16 m15 => (if r16 = 0 then bd2 (f_X11_awayIn v4 m15) (fun r19 m18 => (if r19 < 0 then bd2 (f_X11_unitOn v4 v1 m18) (fun r21 m20 => (if r21 < 0 then f_X11_time_J117 (fun w1 w2 w3 w4 m => f_X11_time_L44 k w1 w2 w3 w4 m) v1 v2 v3 v4 v4 m20 else gd (inb v4 80) ((if (gI m20 103 (ix v4)) < 0 then f_X11_time_J117 (fun w1 w2 w3 w4 m => f_X11_time_L44 k w1 w2 w3 w4 m) v1 v2 v3 v4 v4 m20 else gd (inb v4 80) (bd2 (f_X11_isUp (gI m20 103 (ix v4)) m20) (fun r23 m22 => (if r23 = 0 then f_X11_time_J117 (fun w1 w2 w3 w4 m => f_X11_time_L44 k w1 w2 w3 w4 m) v1 v2 v3 v4 v4 m22 else f_X11_time_J118 (fun w1 w2 w3 w4 m => f_X11_time_L44 k w1 w2 w3 w4 m) v1 v2 v3 v4 (1 : Int32) v4 m22))))))) else f_X11_time_J117 (fun w1 w2 w3 w4 m => f_X11_time_L44 k w1 w2 w3 w4 m) v1 v2 v3 v4 v4 m18)) else f_X11_time_J117 (fun w1 w2 w3 w4 m => f_X11_time_L44 k w1 w2 w3 w4 m) v1 v2 v3 v4 v4 m15)) else f_X11_time_L146 FU v1 v2 v3 (0 : Int32)  m)
theorem t_X11_time_L44 {X : XX} {G : GG} {ρ : Nat → Nat} {n t u w v : Nat} {x : Option Nat} {d : Nat} (hX : Ok X G ρ cX11_time 6 RX11 d) (hd0 : 2 ≤ d) (hn : 126 ≤ n) {rE : Int32} {mE : Mm} (hF : Fin' X G ρ n (some .int) (some (.int rE)) (RT t u w v x) mE) : ∀ (k : Nat) (v1 : Int32) (v2 : Int32) (v3 : Int32) (v4 : Int32) (m : Mm), f_X11_time_L44 k v1 v2 v3 v4 m = some (rE, mE) → J X G ρ n 6 44 [(0, .ref 78), (1, .int v1), (2, .int v2), (3, .int v3), (4, .int v4)] [] (RT t u w v x) m := by
  intro k
  induction k with
  | zero => intro _ _ _ _ _ h; rw [f_X11_time_L44] at h; cases h
  | succ k ih =>
    intro v1 v2 v3 v4 m h
    rw [f_X11_time_L44] at h
    refine J_iload hX dX11_time_44 4 rfl ?_
    refine J_aload_n hX dX11_time_46 rfl 0 rfl ?_
    refine J_getR hX dX11_time_47 fl_RX11_71 (ltn ltc_78 hn) lo_78 rfl (rt_78_32 _ _ _ _ _) ?_
    refine J_iconst hX (0 : Int32) dX11_time_50 ic_0 ?_
    refine J_iaload0 hX dX11_time_51 (ltn ltc_99 hn) lay_99 (by decide) ?_
    refine J_icmp_ge hX 143 dX11_time_52 (by decide) h (fun c h => ?_) (fun c h => ?_)
    · refine J_aload_n hX dX11_time_55 rfl 0 rfl ?_
      refine J_getR hX dX11_time_56 fl_RX11_140 (ltn ltc_78 hn) lo_78 rfl (rt_78_55 _ _ _ _ _) ?_
      refine J_iload hX dX11_time_59 4 rfl ?_
      refine J_aload_n hX dX11_time_61 rfl 0 rfl ?_
      refine J_iload hX dX11_time_62 4 rfl ?_
      obtain ⟨r16, m15, h0, h⟩ := bd2_some h
      refine J_callVi (As := [.int v4]) (st := [.int v4, .ref 122]) hX dX11_time_64 cw_RX11_355 (by omega) (c_X11_lostIn hn  h0) (ltn ltc_78 hn) lo_78 (by decide) rfl rfl rfl (Nat.le_of_ble_eq_true rfl) ?_
      clear h0
      refine J_if_ne hX 117 dX11_time_67 (by decide) h (fun c h => ?_) (fun c h => ?_)
      · refine J_aload_n hX dX11_time_70 rfl 0 rfl ?_
        refine J_iload hX dX11_time_71 4 rfl ?_
        obtain ⟨r19, m18, h0, h⟩ := bd2_some h
        refine J_callVi (As := [.int v4]) (st := [.int v4, .ref 122]) hX dX11_time_73 cw_RX11_376 (by omega) (c_X11_awayIn hn  h0) (ltn ltc_78 hn) lo_78 (by decide) rfl rfl rfl (Nat.le_of_ble_eq_true rfl) ?_
        clear h0
        refine J_if_ge hX 117 dX11_time_76 (by decide) h (fun c h => ?_) (fun c h => ?_)
        · refine J_aload_n hX dX11_time_79 rfl 0 rfl ?_
          refine J_iload hX dX11_time_80 4 rfl ?_
          refine J_iload_n hX dX11_time_82 rfl 1 rfl ?_
          obtain ⟨r21, m20, h0, h⟩ := bd2_some h
          refine J_callVi (As := [.int v4, .int v1]) (st := [.int v4, .ref 122]) hX dX11_time_83 cw_RX11_309 (by omega) (c_X11_unitOn hn  h0) (ltn ltc_78 hn) lo_78 (by decide) rfl rfl rfl (Nat.le_of_ble_eq_true rfl) ?_
          clear h0
          refine J_if_lt hX 117 dX11_time_86 (by decide) h (fun c h => ?_) (fun c h => ?_)
          · exact t_X11_time_J117 hX hd0 hn hF v1 v2 v3 v4 v4 (fun w1 w2 w3 w4 m h => ih w1 w2 w3 w4 m h) m20 h
          · refine J_aload_n hX dX11_time_89 rfl 0 rfl ?_
            refine J_getR hX dX11_time_90 fl_RX11_83 (ltn ltc_78 hn) lo_78 rfl (rt_78_36 _ _ _ _ _) ?_
            refine J_iload hX dX11_time_93 4 rfl ?_
            refine J_iaload hX dX11_time_95 (ltn ltc_103 hn) lay_103 h (fun h => ?_)
            refine J_if_lt hX 117 dX11_time_96 (by decide) h (fun c h => ?_) (fun c h => ?_)
            · exact t_X11_time_J117 hX hd0 hn hF v1 v2 v3 v4 v4 (fun w1 w2 w3 w4 m h => ih w1 w2 w3 w4 m h) m20 h
            · refine J_aload_n hX dX11_time_99 rfl 0 rfl ?_
              refine J_aload_n hX dX11_time_100 rfl 0 rfl ?_
              refine J_getR hX dX11_time_101 fl_RX11_83 (ltn ltc_78 hn) lo_78 rfl (rt_78_36 _ _ _ _ _) ?_
              refine J_iload hX dX11_time_104 4 rfl ?_
              refine J_iaload hX dX11_time_106 (ltn ltc_103 hn) lay_103 h (fun h => ?_)
              obtain ⟨r23, m22, h0, h⟩ := bd2_some h
              refine J_callVi (As := [.int (gI m20 103 (ix v4))]) (st := [.int v4, .ref 122]) hX dX11_time_107 cw_RX11_373 (by omega) (c_X11_isUp hn  h0) (ltn ltc_78 hn) lo_78 (by decide) rfl rfl rfl (Nat.le_of_ble_eq_true rfl) ?_
              clear h0
              refine J_if_eq hX 117 dX11_time_110 (by decide) h (fun c h => ?_) (fun c h => ?_)
              · exact t_X11_time_J117 hX hd0 hn hF v1 v2 v3 v4 v4 (fun w1 w2 w3 w4 m h => ih w1 w2 w3 w4 m h) m22 h
              · refine J_iconst hX (1 : Int32) dX11_time_113 ic_1 ?_
                refine J_goto hX 118 dX11_time_114 (by decide) ?_
                exact t_X11_time_J118 hX hd0 hn hF v1 v2 v3 v4 (1 : Int32) v4 (fun w1 w2 w3 w4 m h => ih w1 w2 w3 w4 m h) m22 h
        · exact t_X11_time_J117 hX hd0 hn hF v1 v2 v3 v4 v4 (fun w1 w2 w3 w4 m h => ih w1 w2 w3 w4 m h) m18 h
      · exact t_X11_time_J117 hX hd0 hn hF v1 v2 v3 v4 v4 (fun w1 w2 w3 w4 m h => ih w1 w2 w3 w4 m h) m15 h
    · refine J_iconst hX (0 : Int32) dX11_time_143 ic_0 ?_
      refine J_istore hX [(4, .int (0 : Int32)), (0, .ref 78), (1, .int v1), (2, .int v2), (3, .int v3)] dX11_time_144 (by decide) rfl ?_
      refine J_sub [(0, .ref 78), (1, .int v1), (2, .int v2), (3, .int v3), (4, .int (0 : Int32))] [1, 2, 3, 4, 0] rfl ?_
      exact t_X11_time_L146 hX hd0 hn hF FU v1 v2 v3 (0 : Int32)  m h
def f_X11_time (x1 : Int32) (x2 : Int32) (m : Mm) : Option (Int32 × Mm) := stI m 78 0 (0 : Int32) (fun m1 => bd2 (f_X11_isDisk x1 m1) (fun r3 m2 => (if r3 = 0 then some ((-1 : Int32), m2) else bd2 (f_X11_isUp x1 m2) (fun r5 m4 => (if r5 = 0 then some ((-1 : Int32), m4) else bd2 (f_X11_within x2 (0 : Int32) ((gI m4 80 (ix (2 : Int32))) - (1 : Int32)) m4) (fun r7 m6 => (if r7 = 0 then some ((-1 : Int32), m6) else f_X11_time_L44 FU x1 x2 (0 : Int32) (0 : Int32)  m6)))))))
theorem t_X11_time {X : XX} {G : GG} {ρ : Nat → Nat} {n t u w v : Nat} {x : Option Nat} {d : Nat} (hX : Ok X G ρ cX11_time 6 RX11 d) (hd0 : 2 ≤ d) (hn : 126 ≤ n) {rE : Int32} {mE : Mm} (hF : Fin' X G ρ n (some .int) (some (.int rE)) (RT t u w v x) mE) {x1 : Int32} {x2 : Int32} {m : Mm} (h : f_X11_time x1 x2 m = some (rE, mE)) : J X G ρ n 6 0 [(0, .ref 78), (1, .int x1), (2, .int x2)] [] (RT t u w v x) m := by
  unfold f_X11_time at h
  refine J_aload_n hX dX11_time_0 rfl 0 rfl ?_
  refine J_iconst hX (0 : Int32) dX11_time_1 ic_0 ?_
  refine J_putI hX dX11_time_2 pl_RX11_152 (ltn ltc_78 hn) lo_78 rfl rfl rfl h (fun m1 h => ?_)
  refine J_aload_n hX dX11_time_5 rfl 0 rfl ?_
  refine J_iload_n hX dX11_time_6 rfl 1 rfl ?_
  obtain ⟨r3, m2, h0, h⟩ := bd2_some h
  refine J_callVi (As := [.int x1]) (st := []) hX dX11_time_7 cw_RX11_385 (by omega) (c_X11_isDisk hn  h0) (ltn ltc_78 hn) lo_78 (by decide) rfl rfl rfl (Nat.le_of_ble_eq_true rfl) ?_
  clear h0
  refine J_if_eq hX 37 dX11_time_10 (by decide) h (fun c h => ?_) (fun c h => ?_)
  · refine J_iconst hX (-1 : Int32) dX11_time_37 ic_m1 ?_
    exact J_ireturn hX dX11_time_38 h hF rfl
  · refine J_aload_n hX dX11_time_13 rfl 0 rfl ?_
    refine J_iload_n hX dX11_time_14 rfl 1 rfl ?_
    obtain ⟨r5, m4, h0, h⟩ := bd2_some h
    refine J_callVi (As := [.int x1]) (st := []) hX dX11_time_15 cw_RX11_373 (by omega) (c_X11_isUp hn  h0) (ltn ltc_78 hn) lo_78 (by decide) rfl rfl rfl (Nat.le_of_ble_eq_true rfl) ?_
    clear h0
    refine J_if_eq hX 37 dX11_time_18 (by decide) h (fun c h => ?_) (fun c h => ?_)
    · refine J_iconst hX (-1 : Int32) dX11_time_37 ic_m1 ?_
      exact J_ireturn hX dX11_time_38 h hF rfl
    · refine J_iload_n hX dX11_time_21 rfl 2 rfl ?_
      refine J_iconst hX (0 : Int32) dX11_time_22 ic_0 ?_
      refine J_aload_n hX dX11_time_23 rfl 0 rfl ?_
      refine J_getR hX dX11_time_24 fl_RX11_13 (ltn ltc_78 hn) lo_78 rfl (rt_78_10 _ _ _ _ _) ?_
      refine J_iconst hX (2 : Int32) dX11_time_27 ic_2 ?_
      refine J_iaload0 hX dX11_time_28 (ltn ltc_80 hn) lay_80 (by decide) ?_
      refine J_iconst hX (1 : Int32) dX11_time_29 ic_1 ?_
      refine J_isub hX dX11_time_30 ?_
      obtain ⟨r7, m6, h0, h⟩ := bd2_some h
      refine J_callSi (As := [.int x2, .int (0 : Int32), .int ((gI m4 80 (ix (2 : Int32))) - (1 : Int32))]) (st := []) hX dX11_time_31 cw_RX11_239 (by omega) (c_X11_within hn  h0) rfl rfl (Nat.le_of_ble_eq_true rfl) ?_
      clear h0
      refine J_if_ne hX 39 dX11_time_34 (by decide) h (fun c h => ?_) (fun c h => ?_)
      · refine J_iconst hX (-1 : Int32) dX11_time_37 ic_m1 ?_
        exact J_ireturn hX dX11_time_38 h hF rfl
      · refine J_iconst hX (0 : Int32) dX11_time_39 ic_0 ?_
        refine J_istore_n hX [(3, .int (0 : Int32)), (0, .ref 78), (1, .int x1), (2, .int x2)] dX11_time_40 rfl (by decide) rfl ?_
        refine J_iconst hX (0 : Int32) dX11_time_41 ic_0 ?_
        refine J_istore hX [(4, .int (0 : Int32)), (3, .int (0 : Int32)), (0, .ref 78), (1, .int x1), (2, .int x2)] dX11_time_42 (by decide) rfl ?_
        refine J_sub [(0, .ref 78), (1, .int x1), (2, .int x2), (3, .int (0 : Int32)), (4, .int (0 : Int32))] [2, 3, 4, 1, 0] rfl ?_
        exact t_X11_time_L44 hX hd0 hn hF FU x1 x2 (0 : Int32) (0 : Int32)  m6 h
theorem c_X11_time {G : GG} {l : Launch} {ρ : Nat → Nat} {n t u w v : Nat} {x : Option Nat} (hn : 126 ≤ n) {x1 : Int32} {x2 : Int32} {m : Mm} {rE : Int32} {mE : Mm} (h : f_X11_time x1 x2 m = some (rE, mE)) : CT G l yX11_time cX11_time 6 (some .int) 2 0 0 ρ n (RT t u w v x) [.ref 78, .int x1, .int x2] m (some (.int rE)) (RT t u w v x) mE := ct_of_J (by decide) rfl (Nat.le_of_ble_eq_true rfl) (fun X hX e1 e2 e3 e4 hQ hr hl => t_X11_time hX (Nat.le_refl _) hn ⟨by rw [hQ, e3, e4], hr, hl⟩ h)
def f_X10_bears (t : Nat) (u : Nat) (w : Nat) (v : Nat) (x1 : Int32) (m : Mm) : Option (Int32 × Mm) := bd2 (f_X10_isUpDisk t u w v x1 m) (fun r2 m1 => (if r2 = 0 then some ((0 : Int32), m1) else bd2 (f_X5_kills ((1 : Int32) <<< (x1 &&& 31)) m1) (fun r4 m3 => (if r4 = 0 then some ((1 : Int32), m3) else some ((0 : Int32), m3)))))
theorem t_X10_bears {X : XX} {G : GG} {ρ : Nat → Nat} {n : Nat} {x : Option Nat} {d : Nat} {t : Nat} {u : Nat} {w : Nat} {v : Nat} (hX : Ok X G ρ cX10_bears 2 RX10 d) (hd0 : 3 ≤ d) (hn : 126 ≤ n) (ht : isTo t) (hu : isTo u) (hw : isWk w) (hv : isWk v) {rE : Int32} {mE : Mm} (hF : Fin' X G ρ n (some .boolean) (some (.int rE)) (RT t u w v x) mE) {x1 : Int32} {m : Mm} (h : f_X10_bears t u w v x1 m = some (rE, mE)) : J X G ρ n 2 0 [(0, .ref 0), (1, .int x1)] [] (RT t u w v x) m := by
  unfold f_X10_bears at h
  refine J_aload_n hX dX10_bears_0 rfl 0 rfl ?_
  refine J_iload_n hX dX10_bears_1 rfl 1 rfl ?_
  obtain ⟨r2, m1, h0, h⟩ := bd2_some h
  refine J_callVi (As := [.int x1]) (st := []) hX dX10_bears_2 cw_RX10_267 (by omega) (c_X10_isUpDisk hn ht hu hw hv h0) (ltn ltc_0 hn) lo_0 (by decide) rfl rfl rfl (Nat.le_of_ble_eq_true rfl) ?_
  clear h0
  refine J_if_eq hX 25 dX10_bears_5 (by decide) h (fun c h => ?_) (fun c h => ?_)
  · refine J_iconst hX (0 : Int32) dX10_bears_25 ic_0 ?_
    exact J_ireturn hX dX10_bears_26 h hF narrow_b0
  · refine J_aload_n hX dX10_bears_8 rfl 0 rfl ?_
    refine J_getR hX dX10_bears_9 fl_RX10_80 (ltn ltc_0 hn) lo_0 rfl (rt_0_12 _ _ _ _ _) ?_
    refine J_iconst hX (1 : Int32) dX10_bears_12 ic_1 ?_
    refine J_iload_n hX dX10_bears_13 rfl 1 rfl ?_
    refine J_ishl hX dX10_bears_14 ?_
    obtain ⟨r4, m3, h0, h⟩ := bd2_some h
    refine J_callVi (As := [.int ((1 : Int32) <<< (x1 &&& 31))]) (st := []) hX dX10_bears_15 cw_RX10_279 (by omega) (c_X5_kills hn  h0) (ltn ltc_76 hn) lo_76 (by decide) rfl rfl rfl (Nat.le_of_ble_eq_true rfl) ?_
    clear h0
    refine J_if_ne hX 25 dX10_bears_18 (by decide) h (fun c h => ?_) (fun c h => ?_)
    · refine J_iconst hX (1 : Int32) dX10_bears_21 ic_1 ?_
      refine J_goto hX 26 dX10_bears_22 (by decide) ?_
      exact J_ireturn hX dX10_bears_26 h hF narrow_b1
    · refine J_iconst hX (0 : Int32) dX10_bears_25 ic_0 ?_
      exact J_ireturn hX dX10_bears_26 h hF narrow_b0
theorem c_X10_bears {G : GG} {l : Launch} {ρ : Nat → Nat} {n : Nat} {x : Option Nat} (hn : 126 ≤ n) {t : Nat} {u : Nat} {w : Nat} {v : Nat} (ht : isTo t) (hu : isTo u) (hw : isWk w) (hv : isWk v) {x1 : Int32} {m : Mm} {rE : Int32} {mE : Mm} (h : f_X10_bears t u w v x1 m = some (rE, mE)) : CT G l yX10_bears cX10_bears 2 (some .boolean) 3 0 0 ρ n (RT t u w v x) [.ref 0, .int x1] m (some (.int rE)) (RT t u w v x) mE := ct_of_J (by decide) rfl (Nat.le_of_ble_eq_true rfl) (fun X hX e1 e2 e3 e4 hQ hr hl => t_X10_bears hX (Nat.le_refl _) hn ht hu hw hv ⟨by rw [hQ, e3, e4], hr, hl⟩ h)
def f_X11_bears (x1 : Int32) (m : Mm) : Option (Int32 × Mm) := stI m 78 0 (0 : Int32) (fun m1 => bd2 (f_X11_isDisk x1 m1) (fun r3 m2 => (if r3 = 0 then some ((0 : Int32), m2) else bd2 (f_X11_isUp x1 m2) (fun r5 m4 => (if r5 = 0 then some ((0 : Int32), m4) else bd2 (f_X11_deadBy x1 (-1 : Int32) m4) (fun r7 m6 => bd2 (f_X11_deadOnes m6) (fun r9 m8 => (if r7 = r9 then some ((1 : Int32), m8) else some ((0 : Int32), m8)))))))))
theorem t_X11_bears {X : XX} {G : GG} {ρ : Nat → Nat} {n t u w v : Nat} {x : Option Nat} {d : Nat} (hX : Ok X G ρ cX11_bears 2 RX11 d) (hd0 : 4 ≤ d) (hn : 126 ≤ n) {rE : Int32} {mE : Mm} (hF : Fin' X G ρ n (some .boolean) (some (.int rE)) (RT t u w v x) mE) {x1 : Int32} {m : Mm} (h : f_X11_bears x1 m = some (rE, mE)) : J X G ρ n 2 0 [(0, .ref 78), (1, .int x1)] [] (RT t u w v x) m := by
  unfold f_X11_bears at h
  refine J_aload_n hX dX11_bears_0 rfl 0 rfl ?_
  refine J_iconst hX (0 : Int32) dX11_bears_1 ic_0 ?_
  refine J_putI hX dX11_bears_2 pl_RX11_152 (ltn ltc_78 hn) lo_78 rfl rfl rfl h (fun m1 h => ?_)
  refine J_aload_n hX dX11_bears_5 rfl 0 rfl ?_
  refine J_iload_n hX dX11_bears_6 rfl 1 rfl ?_
  obtain ⟨r3, m2, h0, h⟩ := bd2_some h
  refine J_callVi (As := [.int x1]) (st := []) hX dX11_bears_7 cw_RX11_385 (by omega) (c_X11_isDisk hn  h0) (ltn ltc_78 hn) lo_78 (by decide) rfl rfl rfl (Nat.le_of_ble_eq_true rfl) ?_
  clear h0
  refine J_if_eq hX 38 dX11_bears_10 (by decide) h (fun c h => ?_) (fun c h => ?_)
  · refine J_iconst hX (0 : Int32) dX11_bears_38 ic_0 ?_
    exact J_ireturn hX dX11_bears_39 h hF narrow_b0
  · refine J_aload_n hX dX11_bears_13 rfl 0 rfl ?_
    refine J_iload_n hX dX11_bears_14 rfl 1 rfl ?_
    obtain ⟨r5, m4, h0, h⟩ := bd2_some h
    refine J_callVi (As := [.int x1]) (st := []) hX dX11_bears_15 cw_RX11_373 (by omega) (c_X11_isUp hn  h0) (ltn ltc_78 hn) lo_78 (by decide) rfl rfl rfl (Nat.le_of_ble_eq_true rfl) ?_
    clear h0
    refine J_if_eq hX 38 dX11_bears_18 (by decide) h (fun c h => ?_) (fun c h => ?_)
    · refine J_iconst hX (0 : Int32) dX11_bears_38 ic_0 ?_
      exact J_ireturn hX dX11_bears_39 h hF narrow_b0
    · refine J_aload_n hX dX11_bears_21 rfl 0 rfl ?_
      refine J_iload_n hX dX11_bears_22 rfl 1 rfl ?_
      refine J_iconst hX (-1 : Int32) dX11_bears_23 ic_m1 ?_
      obtain ⟨r7, m6, h0, h⟩ := bd2_some h
      refine J_callVi (As := [.int x1, .int (-1 : Int32)]) (st := []) hX dX11_bears_24 cw_RX11_466 (by omega) (c_X11_deadBy hn  h0) (ltn ltc_78 hn) lo_78 (by decide) rfl rfl rfl (Nat.le_of_ble_eq_true rfl) ?_
      clear h0
      refine J_aload_n hX dX11_bears_27 rfl 0 rfl ?_
      obtain ⟨r9, m8, h0, h⟩ := bd2_some h
      refine J_callVi (As := []) (st := [.int r7]) hX dX11_bears_28 cw_RX11_428 (by omega) (c_X11_deadOnes hn  h0) (ltn ltc_78 hn) lo_78 (by decide) rfl rfl rfl (Nat.le_of_ble_eq_true rfl) ?_
      clear h0
      refine J_icmp_ne hX 38 dX11_bears_31 (by decide) h (fun c h => ?_) (fun c h => ?_)
      · refine J_iconst hX (1 : Int32) dX11_bears_34 ic_1 ?_
        refine J_goto hX 39 dX11_bears_35 (by decide) ?_
        exact J_ireturn hX dX11_bears_39 h hF narrow_b1
      · refine J_iconst hX (0 : Int32) dX11_bears_38 ic_0 ?_
        exact J_ireturn hX dX11_bears_39 h hF narrow_b0
theorem c_X11_bears {G : GG} {l : Launch} {ρ : Nat → Nat} {n t u w v : Nat} {x : Option Nat} (hn : 126 ≤ n) {x1 : Int32} {m : Mm} {rE : Int32} {mE : Mm} (h : f_X11_bears x1 m = some (rE, mE)) : CT G l yX11_bears cX11_bears 2 (some .boolean) 4 0 0 ρ n (RT t u w v x) [.ref 78, .int x1] m (some (.int rE)) (RT t u w v x) mE := ct_of_J (by decide) rfl (Nat.le_of_ble_eq_true rfl) (fun X hX e1 e2 e3 e4 hQ hr hl => t_X11_bears hX (Nat.le_refl _) hn ⟨by rw [hQ, e3, e4], hr, hl⟩ h)
def f_X10_risk (t : Nat) (u : Nat) (w : Nat) (v : Nat) (m : Mm) : Option (Int32 × Mm) := bd2 (f_X5_deadlyPairs m) (fun r2 m1 => some (r2, m1))
theorem t_X10_risk {X : XX} {G : GG} {ρ : Nat → Nat} {n : Nat} {x : Option Nat} {d : Nat} {t : Nat} {u : Nat} {w : Nat} {v : Nat} (hX : Ok X G ρ cX10_risk 1 RX10 d) (hd0 : 4 ≤ d) (hn : 126 ≤ n) (ht : isTo t) (hu : isTo u) (hw : isWk w) (hv : isWk v) {rE : Int32} {mE : Mm} (hF : Fin' X G ρ n (some .int) (some (.int rE)) (RT t u w v x) mE) {m : Mm} (h : f_X10_risk t u w v m = some (rE, mE)) : J X G ρ n 1 0 [(0, .ref 0)] [] (RT t u w v x) m := by
  unfold f_X10_risk at h
  refine J_aload_n hX dX10_risk_0 rfl 0 rfl ?_
  refine J_getR hX dX10_risk_1 fl_RX10_80 (ltn ltc_0 hn) lo_0 rfl (rt_0_12 _ _ _ _ _) ?_
  obtain ⟨r2, m1, h0, h⟩ := bd2_some h
  refine J_callVi (As := []) (st := []) hX dX10_risk_4 cw_RX10_282 (by omega) (c_X5_deadlyPairs hn  h0) (ltn ltc_76 hn) lo_76 (by decide) rfl rfl rfl (Nat.le_of_ble_eq_true rfl) ?_
  clear h0
  exact J_ireturn hX dX10_risk_7 h hF rfl
theorem c_X10_risk {G : GG} {l : Launch} {ρ : Nat → Nat} {n : Nat} {x : Option Nat} (hn : 126 ≤ n) {t : Nat} {u : Nat} {w : Nat} {v : Nat} (ht : isTo t) (hu : isTo u) (hw : isWk w) (hv : isWk v) {m : Mm} {rE : Int32} {mE : Mm} (h : f_X10_risk t u w v m = some (rE, mE)) : CT G l yX10_risk cX10_risk 1 (some .int) 4 0 0 ρ n (RT t u w v x) [.ref 0] m (some (.int rE)) (RT t u w v x) mE := ct_of_J (by decide) rfl (Nat.le_of_ble_eq_true rfl) (fun X hX e1 e2 e3 e4 hQ hr hl => t_X10_risk hX (Nat.le_refl _) hn ht hu hw hv ⟨by rw [hQ, e3, e4], hr, hl⟩ h)
def f_X11_risk_L21 (v2 : Int32) (K : Int32 → Mm → Option (Int32 × Mm)) : Nat → Int32 → Int32 → Mm → Option (Int32 × Mm)
  | 0, _, _, _ => none
  | k + 1, v1, v3, m => (if v3 < v2 then bd2 (f_X11_isUp v2 m) (fun r3 m2 => (if r3 = 0 then f_X11_risk_L21 v2 K k (v1 + (0 : Int32)) (v3 + (1 : Int32)) m2 else bd2 (f_X11_isUp v3 m2) (fun r5 m4 => (if r5 = 0 then f_X11_risk_L21 v2 K k (v1 + (0 : Int32)) (v3 + (1 : Int32)) m4 else bd2 (f_X11_deadBy v2 v3 m4) (fun r7 m6 => bd2 (f_X11_deadOnes m6) (fun r9 m8 => (if r9 < r7 then f_X11_risk_L21 v2 K k (v1 + (1 : Int32)) (v3 + (1 : Int32)) m8 else f_X11_risk_L21 v2 K k (v1 + (0 : Int32)) (v3 + (1 : Int32)) m8))))))) else K v1 m)
theorem t_X11_risk_L21 {X : XX} {G : GG} {ρ : Nat → Nat} {n t u w v : Nat} {x : Option Nat} {d : Nat} (hX : Ok X G ρ cX11_risk 4 RX11 d) (hd0 : 4 ≤ d) (hn : 126 ≤ n) {rE : Int32} {mE : Mm} (hF : Fin' X G ρ n (some .int) (some (.int rE)) (RT t u w v x) mE) {v2 : Int32} {K : Int32 → Mm → Option (Int32 × Mm)} (hK : ∀ (w1 : Int32) (m : Mm), K w1 m = some (rE, mE) → J X G ρ n 4 69 [(0, .ref 78), (1, .int w1), (2, .int v2)] [] (RT t u w v x) m) : ∀ (k : Nat) (v1 : Int32) (v3 : Int32) (m : Mm), f_X11_risk_L21 v2 K k v1 v3 m = some (rE, mE) → J X G ρ n 4 21 [(0, .ref 78), (1, .int v1), (2, .int v2), (3, .int v3)] [] (RT t u w v x) m := by
  intro k
  induction k with
  | zero => intro _ _ _ h; rw [f_X11_risk_L21] at h; cases h
  | succ k ih =>
    intro v1 v3 m h
    rw [f_X11_risk_L21] at h
    refine J_iload_n hX dX11_risk_21 rfl 3 rfl ?_
    refine J_iload_n hX dX11_risk_22 rfl 2 rfl ?_
    refine J_icmp_ge hX 69 dX11_risk_23 (by decide) h (fun c h => ?_) (fun c h => ?_)
    · refine J_iload_n hX dX11_risk_26 rfl 1 rfl ?_
      refine J_aload_n hX dX11_risk_27 rfl 0 rfl ?_
      refine J_iload_n hX dX11_risk_28 rfl 2 rfl ?_
      obtain ⟨r3, m2, h0, h⟩ := bd2_some h
      refine J_callVi (As := [.int v2]) (st := [.int v1]) hX dX11_risk_29 cw_RX11_373 (by omega) (c_X11_isUp hn  h0) (ltn ltc_78 hn) lo_78 (by decide) rfl rfl rfl (Nat.le_of_ble_eq_true rfl) ?_
      clear h0
      refine J_if_eq hX 60 dX11_risk_32 (by decide) h (fun c h => ?_) (fun c h => ?_)
      · refine J_iconst hX (0 : Int32) dX11_risk_60 ic_0 ?_
        refine J_iadd hX dX11_risk_61 ?_
        refine J_istore_n hX [(1, .int (v1 + (0 : Int32))), (0, .ref 78), (2, .int v2), (3, .int v3)] dX11_risk_62 rfl (by decide) rfl ?_
        refine J_iinc hX (v3 + (1 : Int32)) [(3, .int (v3 + (1 : Int32))), (1, .int (v1 + (0 : Int32))), (0, .ref 78), (2, .int v2)] dX11_risk_63 3 rfl (congrArg (fun z => v3 + z) ic_1) (by decide) rfl ?_
        refine J_goto hX 21 dX11_risk_66 (by decide) ?_
        refine J_sub [(0, .ref 78), (1, .int (v1 + (0 : Int32))), (2, .int v2), (3, .int (v3 + (1 : Int32)))] [2, 1, 3, 0] rfl ?_
        exact ih (v1 + (0 : Int32)) (v3 + (1 : Int32)) m2 h
      · refine J_aload_n hX dX11_risk_35 rfl 0 rfl ?_
        refine J_iload_n hX dX11_risk_36 rfl 3 rfl ?_
        obtain ⟨r5, m4, h0, h⟩ := bd2_some h
        refine J_callVi (As := [.int v3]) (st := [.int v1]) hX dX11_risk_37 cw_RX11_373 (by omega) (c_X11_isUp hn  h0) (ltn ltc_78 hn) lo_78 (by decide) rfl rfl rfl (Nat.le_of_ble_eq_true rfl) ?_
        clear h0
        refine J_if_eq hX 60 dX11_risk_40 (by decide) h (fun c h => ?_) (fun c h => ?_)
        · refine J_iconst hX (0 : Int32) dX11_risk_60 ic_0 ?_
          refine J_iadd hX dX11_risk_61 ?_
          refine J_istore_n hX [(1, .int (v1 + (0 : Int32))), (0, .ref 78), (2, .int v2), (3, .int v3)] dX11_risk_62 rfl (by decide) rfl ?_
          refine J_iinc hX (v3 + (1 : Int32)) [(3, .int (v3 + (1 : Int32))), (1, .int (v1 + (0 : Int32))), (0, .ref 78), (2, .int v2)] dX11_risk_63 3 rfl (congrArg (fun z => v3 + z) ic_1) (by decide) rfl ?_
          refine J_goto hX 21 dX11_risk_66 (by decide) ?_
          refine J_sub [(0, .ref 78), (1, .int (v1 + (0 : Int32))), (2, .int v2), (3, .int (v3 + (1 : Int32)))] [2, 1, 3, 0] rfl ?_
          exact ih (v1 + (0 : Int32)) (v3 + (1 : Int32)) m4 h
        · refine J_aload_n hX dX11_risk_43 rfl 0 rfl ?_
          refine J_iload_n hX dX11_risk_44 rfl 2 rfl ?_
          refine J_iload_n hX dX11_risk_45 rfl 3 rfl ?_
          obtain ⟨r7, m6, h0, h⟩ := bd2_some h
          refine J_callVi (As := [.int v2, .int v3]) (st := [.int v1]) hX dX11_risk_46 cw_RX11_466 (by omega) (c_X11_deadBy hn  h0) (ltn ltc_78 hn) lo_78 (by decide) rfl rfl rfl (Nat.le_of_ble_eq_true rfl) ?_
          clear h0
          refine J_aload_n hX dX11_risk_49 rfl 0 rfl ?_
          obtain ⟨r9, m8, h0, h⟩ := bd2_some h
          refine J_callVi (As := []) (st := [.int r7, .int v1]) hX dX11_risk_50 cw_RX11_428 (by omega) (c_X11_deadOnes hn  h0) (ltn ltc_78 hn) lo_78 (by decide) rfl rfl rfl (Nat.le_of_ble_eq_true rfl) ?_
          clear h0
          refine J_icmp_le hX 60 dX11_risk_53 (by decide) h (fun c h => ?_) (fun c h => ?_)
          · refine J_iconst hX (1 : Int32) dX11_risk_56 ic_1 ?_
            refine J_goto hX 61 dX11_risk_57 (by decide) ?_
            refine J_iadd hX dX11_risk_61 ?_
            refine J_istore_n hX [(1, .int (v1 + (1 : Int32))), (0, .ref 78), (2, .int v2), (3, .int v3)] dX11_risk_62 rfl (by decide) rfl ?_
            refine J_iinc hX (v3 + (1 : Int32)) [(3, .int (v3 + (1 : Int32))), (1, .int (v1 + (1 : Int32))), (0, .ref 78), (2, .int v2)] dX11_risk_63 3 rfl (congrArg (fun z => v3 + z) ic_1) (by decide) rfl ?_
            refine J_goto hX 21 dX11_risk_66 (by decide) ?_
            refine J_sub [(0, .ref 78), (1, .int (v1 + (1 : Int32))), (2, .int v2), (3, .int (v3 + (1 : Int32)))] [2, 1, 3, 0] rfl ?_
            exact ih (v1 + (1 : Int32)) (v3 + (1 : Int32)) m8 h
          · refine J_iconst hX (0 : Int32) dX11_risk_60 ic_0 ?_
            refine J_iadd hX dX11_risk_61 ?_
            refine J_istore_n hX [(1, .int (v1 + (0 : Int32))), (0, .ref 78), (2, .int v2), (3, .int v3)] dX11_risk_62 rfl (by decide) rfl ?_
            refine J_iinc hX (v3 + (1 : Int32)) [(3, .int (v3 + (1 : Int32))), (1, .int (v1 + (0 : Int32))), (0, .ref 78), (2, .int v2)] dX11_risk_63 3 rfl (congrArg (fun z => v3 + z) ic_1) (by decide) rfl ?_
            refine J_goto hX 21 dX11_risk_66 (by decide) ?_
            refine J_sub [(0, .ref 78), (1, .int (v1 + (0 : Int32))), (2, .int v2), (3, .int (v3 + (1 : Int32)))] [2, 1, 3, 0] rfl ?_
            exact ih (v1 + (0 : Int32)) (v3 + (1 : Int32)) m8 h
    · refine J_sub [(0, .ref 78), (1, .int v1), (2, .int v2)] [0, 1, 2] rfl ?_
      exact hK v1 m h
def f_X11_risk_L9 : Nat → Int32 → Int32 →  Mm → Option (Int32 × Mm)
  | 0, _, _, _ => none
  | k + 1, v1, v2, m => (if v2 < (gI m 80 (ix (0 : Int32))) then f_X11_risk_L21 v2 (fun w10 m11 => f_X11_risk_L9 k w10 (v2 + (1 : Int32)) m11) FU v1 (0 : Int32) m else some (v1, m))
theorem t_X11_risk_L9 {X : XX} {G : GG} {ρ : Nat → Nat} {n t u w v : Nat} {x : Option Nat} {d : Nat} (hX : Ok X G ρ cX11_risk 4 RX11 d) (hd0 : 4 ≤ d) (hn : 126 ≤ n) {rE : Int32} {mE : Mm} (hF : Fin' X G ρ n (some .int) (some (.int rE)) (RT t u w v x) mE) : ∀ (k : Nat) (v1 : Int32) (v2 : Int32) (m : Mm), f_X11_risk_L9 k v1 v2 m = some (rE, mE) → J X G ρ n 4 9 [(0, .ref 78), (1, .int v1), (2, .int v2)] [] (RT t u w v x) m := by
  intro k
  induction k with
  | zero => intro _ _ _ h; rw [f_X11_risk_L9] at h; cases h
  | succ k ih =>
    intro v1 v2 m h
    rw [f_X11_risk_L9] at h
    refine J_iload_n hX dX11_risk_9 rfl 2 rfl ?_
    refine J_aload_n hX dX11_risk_10 rfl 0 rfl ?_
    refine J_getR hX dX11_risk_11 fl_RX11_13 (ltn ltc_78 hn) lo_78 rfl (rt_78_10 _ _ _ _ _) ?_
    refine J_iconst hX (0 : Int32) dX11_risk_14 ic_0 ?_
    refine J_iaload0 hX dX11_risk_15 (ltn ltc_80 hn) lay_80 (by decide) ?_
    refine J_icmp_ge hX 75 dX11_risk_16 (by decide) h (fun c h => ?_) (fun c h => ?_)
    · refine J_iconst hX (0 : Int32) dX11_risk_19 ic_0 ?_
      refine J_istore_n hX [(3, .int (0 : Int32)), (0, .ref 78), (1, .int v1), (2, .int v2)] dX11_risk_20 rfl (by decide) rfl ?_
      refine J_sub [(0, .ref 78), (1, .int v1), (2, .int v2), (3, .int (0 : Int32))] [1, 2, 3, 0] rfl ?_
      refine t_X11_risk_L21 hX hd0 hn hF (fun w10 m11 h => ?_) FU v1 (0 : Int32) m h
      refine J_iinc hX (v2 + (1 : Int32)) [(2, .int (v2 + (1 : Int32))), (0, .ref 78), (1, .int w10)] dX11_risk_69 2 rfl (congrArg (fun z => v2 + z) ic_1) (by decide) rfl ?_
      refine J_goto hX 9 dX11_risk_72 (by decide) ?_
      refine J_sub [(0, .ref 78), (1, .int w10), (2, .int (v2 + (1 : Int32)))] [1, 2, 0] rfl ?_
      exact ih w10 (v2 + (1 : Int32)) m11 h
    · refine J_iload_n hX dX11_risk_75 rfl 1 rfl ?_
      exact J_ireturn hX dX11_risk_76 h hF rfl
def f_X11_risk (m : Mm) : Option (Int32 × Mm) := stI m 78 0 (0 : Int32) (fun m1 => f_X11_risk_L9 FU (0 : Int32) (0 : Int32)  m1)
theorem t_X11_risk {X : XX} {G : GG} {ρ : Nat → Nat} {n t u w v : Nat} {x : Option Nat} {d : Nat} (hX : Ok X G ρ cX11_risk 4 RX11 d) (hd0 : 4 ≤ d) (hn : 126 ≤ n) {rE : Int32} {mE : Mm} (hF : Fin' X G ρ n (some .int) (some (.int rE)) (RT t u w v x) mE) {m : Mm} (h : f_X11_risk m = some (rE, mE)) : J X G ρ n 4 0 [(0, .ref 78)] [] (RT t u w v x) m := by
  unfold f_X11_risk at h
  refine J_aload_n hX dX11_risk_0 rfl 0 rfl ?_
  refine J_iconst hX (0 : Int32) dX11_risk_1 ic_0 ?_
  refine J_putI hX dX11_risk_2 pl_RX11_152 (ltn ltc_78 hn) lo_78 rfl rfl rfl h (fun m1 h => ?_)
  refine J_iconst hX (0 : Int32) dX11_risk_5 ic_0 ?_
  refine J_istore_n hX [(1, .int (0 : Int32)), (0, .ref 78)] dX11_risk_6 rfl (by decide) rfl ?_
  refine J_iconst hX (0 : Int32) dX11_risk_7 ic_0 ?_
  refine J_istore_n hX [(2, .int (0 : Int32)), (1, .int (0 : Int32)), (0, .ref 78)] dX11_risk_8 rfl (by decide) rfl ?_
  refine J_sub [(0, .ref 78), (1, .int (0 : Int32)), (2, .int (0 : Int32))] [2, 1, 0] rfl ?_
  exact t_X11_risk_L9 hX hd0 hn hF FU (0 : Int32) (0 : Int32)  m1 h
theorem c_X11_risk {G : GG} {l : Launch} {ρ : Nat → Nat} {n t u w v : Nat} {x : Option Nat} (hn : 126 ≤ n) {m : Mm} {rE : Int32} {mE : Mm} (h : f_X11_risk m = some (rE, mE)) : CT G l yX11_risk cX11_risk 4 (some .int) 4 0 0 ρ n (RT t u w v x) [.ref 78] m (some (.int rE)) (RT t u w v x) mE := ct_of_J (by decide) rfl (Nat.le_of_ble_eq_true rfl) (fun X hX e1 e2 e3 e4 hQ hr hl => t_X11_risk hX (Nat.le_refl _) hn ⟨by rw [hQ, e3, e4], hr, hl⟩ h)
def f_X10_grow (t : Nat) (u : Nat) (w : Nat) (v : Nat) (x1 : Int32) (x2 : Int32) (m : Mm) : Option (Int32 × Mm) := (if (gI m 26 0) = 0 then some ((-1 : Int32), m) else (if x1 < (1 : Int32) then some ((-1 : Int32), m) else (if (3 : Int32) < x1 then some ((-1 : Int32), m) else (if x2 < 0 then some ((-1 : Int32), m) else (if (1 : Int32) < x2 then some ((-1 : Int32), m) else (if (13 : Int32) < ((gI m 26 0) + x1) then some ((-1 : Int32), m) else bd2 (f_X4_build 40 t ((gI m 26 0) + x1) m) (fun r2 m1 => (if r2 = 0 then some ((-1 : Int32), m1) else (if x2 = 0 then bd2 (f_X4_movedIn 26 40 m1) (fun r6 m5 => some (r6, m5)) else bd2 (f_X4_allUnits 26 m1) (fun r4 m3 => gd (nz ((gI m 26 0) + x1)) (some (((r4 * x1) / ((gI m 26 0) + x1)), m3))))))))))))
theorem t_X10_grow {X : XX} {G : GG} {ρ : Nat → Nat} {n : Nat} {x : Option Nat} {d : Nat} {t : Nat} {u : Nat} {w : Nat} {v : Nat} (hX : Ok X G ρ cX10_grow 4 RX10 d) (hd0 : 5 ≤ d) (hn : 126 ≤ n) (ht : isTo t) (hu : isTo u) (hw : isWk w) (hv : isWk v) {rE : Int32} {mE : Mm} (hF : Fin' X G ρ n (some .int) (some (.int rE)) (RT t u w v x) mE) {x1 : Int32} {x2 : Int32} {m : Mm} (h : f_X10_grow t u w v x1 x2 m = some (rE, mE)) : J X G ρ n 4 0 [(0, .ref 0), (1, .int x1), (2, .int x2)] [] (RT t u w v x) m := by
  unfold f_X10_grow at h
  refine J_aload_n hX dX10_grow_0 rfl 0 rfl ?_
  refine J_getR hX dX10_grow_1 fl_RX10_48 (ltn ltc_0 hn) lo_0 rfl (rt_0_6 _ _ _ _ _) ?_
  refine J_getI hX dX10_grow_4 fl_RX10_110 (ltn ltc_26 hn) lo_26 rfl ?_
  refine J_if_eq hX 29 dX10_grow_7 (by decide) h (fun c h => ?_) (fun c h => ?_)
  · refine J_iconst hX (-1 : Int32) dX10_grow_29 ic_m1 ?_
    exact J_ireturn hX dX10_grow_30 h hF rfl
  · refine J_iload_n hX dX10_grow_10 rfl 1 rfl ?_
    refine J_iconst hX (1 : Int32) dX10_grow_11 ic_1 ?_
    refine J_icmp_lt hX 29 dX10_grow_12 (by decide) h (fun c h => ?_) (fun c h => ?_)
    · refine J_iconst hX (-1 : Int32) dX10_grow_29 ic_m1 ?_
      exact J_ireturn hX dX10_grow_30 h hF rfl
    · refine J_iload_n hX dX10_grow_15 rfl 1 rfl ?_
      refine J_iconst hX (3 : Int32) dX10_grow_16 ic_3 ?_
      refine J_icmp_gt hX 29 dX10_grow_17 (by decide) h (fun c h => ?_) (fun c h => ?_)
      · refine J_iconst hX (-1 : Int32) dX10_grow_29 ic_m1 ?_
        exact J_ireturn hX dX10_grow_30 h hF rfl
      · refine J_iload_n hX dX10_grow_20 rfl 2 rfl ?_
        refine J_if_lt hX 29 dX10_grow_21 (by decide) h (fun c h => ?_) (fun c h => ?_)
        · refine J_iconst hX (-1 : Int32) dX10_grow_29 ic_m1 ?_
          exact J_ireturn hX dX10_grow_30 h hF rfl
        · refine J_iload_n hX dX10_grow_24 rfl 2 rfl ?_
          refine J_iconst hX (1 : Int32) dX10_grow_25 ic_1 ?_
          refine J_icmp_le hX 31 dX10_grow_26 (by decide) h (fun c h => ?_) (fun c h => ?_)
          · refine J_iconst hX (-1 : Int32) dX10_grow_29 ic_m1 ?_
            exact J_ireturn hX dX10_grow_30 h hF rfl
          · refine J_aload_n hX dX10_grow_31 rfl 0 rfl ?_
            refine J_getR hX dX10_grow_32 fl_RX10_48 (ltn ltc_0 hn) lo_0 rfl (rt_0_6 _ _ _ _ _) ?_
            refine J_getI hX dX10_grow_35 fl_RX10_110 (ltn ltc_26 hn) lo_26 rfl ?_
            refine J_iload_n hX dX10_grow_38 rfl 1 rfl ?_
            refine J_iadd hX dX10_grow_39 ?_
            refine J_istore_n hX [(3, .int ((gI m 26 0) + x1)), (0, .ref 0), (1, .int x1), (2, .int x2)] dX10_grow_40 rfl (by decide) rfl ?_
            refine J_iload_n hX dX10_grow_41 rfl 0 rfl ?_
            refine J_bipush hX (13 : Int32) dX10_grow_42 (by decide) ?_
            refine J_icmp_gt hX 62 dX10_grow_44 (by decide) h (fun c h => ?_) (fun c h => ?_)
            · refine J_iconst hX (-1 : Int32) dX10_grow_62 ic_m1 ?_
              exact J_ireturn hX dX10_grow_63 h hF rfl
            · refine J_aload_n hX dX10_grow_47 rfl 1 rfl ?_
              refine J_getR hX dX10_grow_48 fl_RX10_52 (ltn ltc_0 hn) lo_0 rfl (rt_0_7 _ _ _ _ _) ?_
              refine J_aload_n hX dX10_grow_51 rfl 1 rfl ?_
              refine J_getR hX dX10_grow_52 fl_RX10_28 (ltn ltc_0 hn) lo_0 rfl (rt_0_2 _ _ _ _ _) ?_
              refine J_iload_n hX dX10_grow_55 rfl 0 rfl ?_
              obtain ⟨r2, m1, h0, h⟩ := bd2_some h
              refine J_callVi (As := [.ref t, .int ((gI m 26 0) + x1)]) (st := []) hX dX10_grow_56 cw_RX10_99 (by omega) (c_X4_build hn p_isLa_40 ht h0) (ltn ltc_40 hn) lo_40 (by decide) rfl rfl rfl (Nat.le_of_ble_eq_true rfl) ?_
              clear h0
              refine J_if_ne hX 64 dX10_grow_59 (by decide) h (fun c h => ?_) (fun c h => ?_)
              · refine J_iconst hX (-1 : Int32) dX10_grow_62 ic_m1 ?_
                exact J_ireturn hX dX10_grow_63 h hF rfl
              · refine J_iload_n hX dX10_grow_64 rfl 3 rfl ?_
                refine J_if_ne hX 82 dX10_grow_65 (by decide) h (fun c h => ?_) (fun c h => ?_)
                · refine J_aload_n hX dX10_grow_68 rfl 1 rfl ?_
                  refine J_getR hX dX10_grow_69 fl_RX10_48 (ltn ltc_0 hn) lo_0 rfl (rt_0_6 _ _ _ _ _) ?_
                  refine J_aload_n hX dX10_grow_72 rfl 1 rfl ?_
                  refine J_getR hX dX10_grow_73 fl_RX10_52 (ltn ltc_0 hn) lo_0 rfl (rt_0_7 _ _ _ _ _) ?_
                  obtain ⟨r6, m5, h0, h⟩ := bd2_some h
                  refine J_callVi (As := [.ref 40]) (st := []) hX dX10_grow_76 cw_RX10_285 (by omega) (c_X4_movedIn hn p_isLa_26 p_isLa_40 h0) (ltn ltc_26 hn) lo_26 (by decide) rfl rfl rfl (Nat.le_of_ble_eq_true rfl) ?_
                  clear h0
                  refine J_goto hX 93 dX10_grow_79 (by decide) ?_
                  exact J_ireturn hX dX10_grow_93 h hF rfl
                · refine J_aload_n hX dX10_grow_82 rfl 1 rfl ?_
                  refine J_getR hX dX10_grow_83 fl_RX10_48 (ltn ltc_0 hn) lo_0 rfl (rt_0_6 _ _ _ _ _) ?_
                  obtain ⟨r4, m3, h0, h⟩ := bd2_some h
                  refine J_callVi (As := []) (st := []) hX dX10_grow_86 cw_RX10_289 (by omega) (c_X4_allUnits hn p_isLa_26 h0) (ltn ltc_26 hn) lo_26 (by decide) rfl rfl rfl (Nat.le_of_ble_eq_true rfl) ?_
                  clear h0
                  refine J_iload_n hX dX10_grow_89 rfl 2 rfl ?_
                  refine J_imul hX dX10_grow_90 ?_
                  refine J_iload_n hX dX10_grow_91 rfl 0 rfl ?_
                  refine J_idiv hX dX10_grow_92 h (fun h => ?_)
                  exact J_ireturn hX dX10_grow_93 h hF rfl
theorem c_X10_grow {G : GG} {l : Launch} {ρ : Nat → Nat} {n : Nat} {x : Option Nat} (hn : 126 ≤ n) {t : Nat} {u : Nat} {w : Nat} {v : Nat} (ht : isTo t) (hu : isTo u) (hw : isWk w) (hv : isWk v) {x1 : Int32} {x2 : Int32} {m : Mm} {rE : Int32} {mE : Mm} (h : f_X10_grow t u w v x1 x2 m = some (rE, mE)) : CT G l yX10_grow cX10_grow 4 (some .int) 5 0 0 ρ n (RT t u w v x) [.ref 0, .int x1, .int x2] m (some (.int rE)) (RT t u w v x) mE := ct_of_J (by decide) rfl (Nat.le_of_ble_eq_true rfl) (fun X hX e1 e2 e3 e4 hQ hr hl => t_X10_grow hX (Nat.le_refl _) hn ht hu hw hv ⟨by rw [hQ, e3, e4], hr, hl⟩ h)
def f_X11_grow_L119 : Nat → Int32 → Int32 →  Mm → Option (Int32 × Mm)
  | 0, _, _, _ => none
  | k + 1, v4, v5, m => (if v5 < (imin (gI m 108 (ix (0 : Int32))) (gI m 108 (ix (1 : Int32)))) then gd (inb v5 320) (gd (inb (gI m 107 (ix v5)) 400) (gd (inb ((160 : Int32) + v5) 320) (gd (inb (gI m 107 (ix ((160 : Int32) + v5))) 400) ((if (gI m 105 (ix (gI m 107 (ix v5)))) = (gI m 105 (ix (gI m 107 (ix ((160 : Int32) + v5))))) then gd (inb v5 320) (gd (inb (gI m 107 (ix v5)) 400) (gd (inb ((160 : Int32) + v5) 320) (gd (inb (gI m 107 (ix ((160 : Int32) + v5))) 400) ((if (gI m 106 (ix (gI m 107 (ix v5)))) = (gI m 106 (ix (gI m 107 (ix ((160 : Int32) + v5))))) then f_X11_grow_L119 k (v4 + (0 : Int32)) (v5 + (1 : Int32)) m else f_X11_grow_L119 k (v4 + (1 : Int32)) (v5 + (1 : Int32)) m))))) else f_X11_grow_L119 k (v4 + (1 : Int32)) (v5 + (1 : Int32)) m))))) else some (v4, m))
theorem t_X11_grow_L119 {X : XX} {G : GG} {ρ : Nat → Nat} {n t u w v : Nat} {x : Option Nat} {d : Nat} (hX : Ok X G ρ cX11_grow 6 RX11 d) (hd0 : 5 ≤ d) (hn : 126 ≤ n) {rE : Int32} {mE : Mm} (hF : Fin' X G ρ n (some .int) (some (.int rE)) (RT t u w v x) mE) : ∀ (k : Nat) (v4 : Int32) (v5 : Int32) (m : Mm), f_X11_grow_L119 k v4 v5 m = some (rE, mE) → J X G ρ n 6 119 [(0, .ref 78), (4, .int v4), (5, .int v5)] [] (RT t u w v x) m := by
  intro k
  induction k with
  | zero => intro _ _ _ h; rw [f_X11_grow_L119] at h; cases h
  | succ k ih =>
    intro v4 v5 m h
    rw [f_X11_grow_L119] at h
    refine J_iload hX dX11_grow_119 2 rfl ?_
    refine J_aload_n hX dX11_grow_121 rfl 0 rfl ?_
    refine J_getR hX dX11_grow_122 fl_RX11_98 (ltn ltc_78 hn) lo_78 rfl (rt_78_41 _ _ _ _ _) ?_
    refine J_iconst hX (0 : Int32) dX11_grow_125 ic_0 ?_
    refine J_iaload0 hX dX11_grow_126 (ltn ltc_108 hn) lay_108 (by decide) ?_
    refine J_aload_n hX dX11_grow_127 rfl 0 rfl ?_
    refine J_getR hX dX11_grow_128 fl_RX11_98 (ltn ltc_78 hn) lo_78 rfl (rt_78_41 _ _ _ _ _) ?_
    refine J_iconst hX (1 : Int32) dX11_grow_131 ic_1 ?_
    refine J_iaload0 hX dX11_grow_132 (ltn ltc_108 hn) lay_108 (by decide) ?_
    refine J_imin hX dX11_grow_133 (by omega) cm_RX11_439 (Nat.le_of_ble_eq_true rfl) ?_
    refine J_icmp_ge hX 217 dX11_grow_136 (by decide) h (fun c h => ?_) (fun c h => ?_)
    · refine J_iload hX dX11_grow_139 1 rfl ?_
      refine J_aload_n hX dX11_grow_141 rfl 0 rfl ?_
      refine J_getR hX dX11_grow_142 fl_RX11_89 (ltn ltc_78 hn) lo_78 rfl (rt_78_38 _ _ _ _ _) ?_
      refine J_aload_n hX dX11_grow_145 rfl 0 rfl ?_
      refine J_getR hX dX11_grow_146 fl_RX11_95 (ltn ltc_78 hn) lo_78 rfl (rt_78_40 _ _ _ _ _) ?_
      refine J_iload hX dX11_grow_149 2 rfl ?_
      refine J_iaload hX dX11_grow_151 (ltn ltc_107 hn) lay_107 h (fun h => ?_)
      refine J_iaload hX dX11_grow_152 (ltn ltc_105 hn) lay_105 h (fun h => ?_)
      refine J_aload_n hX dX11_grow_153 rfl 0 rfl ?_
      refine J_getR hX dX11_grow_154 fl_RX11_89 (ltn ltc_78 hn) lo_78 rfl (rt_78_38 _ _ _ _ _) ?_
      refine J_aload_n hX dX11_grow_157 rfl 0 rfl ?_
      refine J_getR hX dX11_grow_158 fl_RX11_95 (ltn ltc_78 hn) lo_78 rfl (rt_78_40 _ _ _ _ _) ?_
      refine J_sipush hX (160 : Int32) dX11_grow_161 (by decide) ?_
      refine J_iload hX dX11_grow_164 2 rfl ?_
      refine J_iadd hX dX11_grow_166 ?_
      refine J_iaload hX dX11_grow_167 (ltn ltc_107 hn) lay_107 h (fun h => ?_)
      refine J_iaload hX dX11_grow_168 (ltn ltc_105 hn) lay_105 h (fun h => ?_)
      refine J_icmp_ne hX 203 dX11_grow_169 (by decide) h (fun c h => ?_) (fun c h => ?_)
      · refine J_aload_n hX dX11_grow_172 rfl 0 rfl ?_
        refine J_getR hX dX11_grow_173 fl_RX11_92 (ltn ltc_78 hn) lo_78 rfl (rt_78_39 _ _ _ _ _) ?_
        refine J_aload_n hX dX11_grow_176 rfl 0 rfl ?_
        refine J_getR hX dX11_grow_177 fl_RX11_95 (ltn ltc_78 hn) lo_78 rfl (rt_78_40 _ _ _ _ _) ?_
        refine J_iload hX dX11_grow_180 2 rfl ?_
        refine J_iaload hX dX11_grow_182 (ltn ltc_107 hn) lay_107 h (fun h => ?_)
        refine J_iaload hX dX11_grow_183 (ltn ltc_106 hn) lay_106 h (fun h => ?_)
        refine J_aload_n hX dX11_grow_184 rfl 0 rfl ?_
        refine J_getR hX dX11_grow_185 fl_RX11_92 (ltn ltc_78 hn) lo_78 rfl (rt_78_39 _ _ _ _ _) ?_
        refine J_aload_n hX dX11_grow_188 rfl 0 rfl ?_
        refine J_getR hX dX11_grow_189 fl_RX11_95 (ltn ltc_78 hn) lo_78 rfl (rt_78_40 _ _ _ _ _) ?_
        refine J_sipush hX (160 : Int32) dX11_grow_192 (by decide) ?_
        refine J_iload hX dX11_grow_195 2 rfl ?_
        refine J_iadd hX dX11_grow_197 ?_
        refine J_iaload hX dX11_grow_198 (ltn ltc_107 hn) lay_107 h (fun h => ?_)
        refine J_iaload hX dX11_grow_199 (ltn ltc_106 hn) lay_106 h (fun h => ?_)
        refine J_icmp_eq hX 207 dX11_grow_200 (by decide) h (fun c h => ?_) (fun c h => ?_)
        · refine J_iconst hX (0 : Int32) dX11_grow_207 ic_0 ?_
          refine J_iadd hX dX11_grow_208 ?_
          refine J_istore hX [(4, .int (v4 + (0 : Int32))), (0, .ref 78), (5, .int v5)] dX11_grow_209 (by decide) rfl ?_
          refine J_iinc hX (v5 + (1 : Int32)) [(5, .int (v5 + (1 : Int32))), (4, .int (v4 + (0 : Int32))), (0, .ref 78)] dX11_grow_211 2 rfl (congrArg (fun z => v5 + z) ic_1) (by decide) rfl ?_
          refine J_goto hX 119 dX11_grow_214 (by decide) ?_
          refine J_sub [(0, .ref 78), (4, .int (v4 + (0 : Int32))), (5, .int (v5 + (1 : Int32)))] [2, 1, 0] rfl ?_
          exact ih (v4 + (0 : Int32)) (v5 + (1 : Int32)) m h
        · refine J_iconst hX (1 : Int32) dX11_grow_203 ic_1 ?_
          refine J_goto hX 208 dX11_grow_204 (by decide) ?_
          refine J_iadd hX dX11_grow_208 ?_
          refine J_istore hX [(4, .int (v4 + (1 : Int32))), (0, .ref 78), (5, .int v5)] dX11_grow_209 (by decide) rfl ?_
          refine J_iinc hX (v5 + (1 : Int32)) [(5, .int (v5 + (1 : Int32))), (4, .int (v4 + (1 : Int32))), (0, .ref 78)] dX11_grow_211 2 rfl (congrArg (fun z => v5 + z) ic_1) (by decide) rfl ?_
          refine J_goto hX 119 dX11_grow_214 (by decide) ?_
          refine J_sub [(0, .ref 78), (4, .int (v4 + (1 : Int32))), (5, .int (v5 + (1 : Int32)))] [2, 1, 0] rfl ?_
          exact ih (v4 + (1 : Int32)) (v5 + (1 : Int32)) m h
      · refine J_iconst hX (1 : Int32) dX11_grow_203 ic_1 ?_
        refine J_goto hX 208 dX11_grow_204 (by decide) ?_
        refine J_iadd hX dX11_grow_208 ?_
        refine J_istore hX [(4, .int (v4 + (1 : Int32))), (0, .ref 78), (5, .int v5)] dX11_grow_209 (by decide) rfl ?_
        refine J_iinc hX (v5 + (1 : Int32)) [(5, .int (v5 + (1 : Int32))), (4, .int (v4 + (1 : Int32))), (0, .ref 78)] dX11_grow_211 2 rfl (congrArg (fun z => v5 + z) ic_1) (by decide) rfl ?_
        refine J_goto hX 119 dX11_grow_214 (by decide) ?_
        refine J_sub [(0, .ref 78), (4, .int (v4 + (1 : Int32))), (5, .int (v5 + (1 : Int32)))] [2, 1, 0] rfl ?_
        exact ih (v4 + (1 : Int32)) (v5 + (1 : Int32)) m h
    · refine J_iload hX dX11_grow_217 1 rfl ?_
      exact J_ireturn hX dX11_grow_219 h hF rfl
def f_X11_grow_L71 : Nat → Int32 → Int32 → Int32 → Int32 →  Mm → Option (Int32 × Mm)
  | 0, _, _, _, _, _ => none
  | k + 1, v1, v3, v4, v5, m => (if v5 < (gI m 99 (ix (0 : Int32))) then gd (inb v5 80) (f_X11_grow_L71 k v1 v3 (v4 + (gI m 100 (ix v5))) (v5 + (1 : Int32)) m) else gd (nz v3) (some (((v4 * v1) / v3), m)))
theorem t_X11_grow_L71 {X : XX} {G : GG} {ρ : Nat → Nat} {n t u w v : Nat} {x : Option Nat} {d : Nat} (hX : Ok X G ρ cX11_grow 6 RX11 d) (hd0 : 5 ≤ d) (hn : 126 ≤ n) {rE : Int32} {mE : Mm} (hF : Fin' X G ρ n (some .int) (some (.int rE)) (RT t u w v x) mE) : ∀ (k : Nat) (v1 : Int32) (v3 : Int32) (v4 : Int32) (v5 : Int32) (m : Mm), f_X11_grow_L71 k v1 v3 v4 v5 m = some (rE, mE) → J X G ρ n 6 71 [(0, .ref 78), (1, .int v1), (3, .int v3), (4, .int v4), (5, .int v5)] [] (RT t u w v x) m := by
  intro k
  induction k with
  | zero => intro _ _ _ _ _ h; rw [f_X11_grow_L71] at h; cases h
  | succ k ih =>
    intro v1 v3 v4 v5 m h
    rw [f_X11_grow_L71] at h
    refine J_iload hX dX11_grow_71 4 rfl ?_
    refine J_aload_n hX dX11_grow_73 rfl 0 rfl ?_
    refine J_getR hX dX11_grow_74 fl_RX11_71 (ltn ltc_78 hn) lo_78 rfl (rt_78_32 _ _ _ _ _) ?_
    refine J_iconst hX (0 : Int32) dX11_grow_77 ic_0 ?_
    refine J_iaload0 hX dX11_grow_78 (ltn ltc_99 hn) lay_99 (by decide) ?_
    refine J_icmp_ge hX 100 dX11_grow_79 (by decide) h (fun c h => ?_) (fun c h => ?_)
    · refine J_iload hX dX11_grow_82 3 rfl ?_
      refine J_aload_n hX dX11_grow_84 rfl 0 rfl ?_
      refine J_getR hX dX11_grow_85 fl_RX11_74 (ltn ltc_78 hn) lo_78 rfl (rt_78_33 _ _ _ _ _) ?_
      refine J_iload hX dX11_grow_88 4 rfl ?_
      refine J_iaload hX dX11_grow_90 (ltn ltc_100 hn) lay_100 h (fun h => ?_)
      refine J_iadd hX dX11_grow_91 ?_
      refine J_istore hX [(4, .int (v4 + (gI m 100 (ix v5)))), (0, .ref 78), (1, .int v1), (3, .int v3), (5, .int v5)] dX11_grow_92 (by decide) rfl ?_
      refine J_iinc hX (v5 + (1 : Int32)) [(5, .int (v5 + (1 : Int32))), (4, .int (v4 + (gI m 100 (ix v5)))), (0, .ref 78), (1, .int v1), (3, .int v3)] dX11_grow_94 4 rfl (congrArg (fun z => v5 + z) ic_1) (by decide) rfl ?_
      refine J_goto hX 71 dX11_grow_97 (by decide) ?_
      refine J_sub [(0, .ref 78), (1, .int v1), (3, .int v3), (4, .int (v4 + (gI m 100 (ix v5)))), (5, .int (v5 + (1 : Int32)))] [2, 3, 4, 1, 0] rfl ?_
      exact ih v1 v3 (v4 + (gI m 100 (ix v5))) (v5 + (1 : Int32)) m h
    · refine J_iload hX dX11_grow_100 3 rfl ?_
      refine J_iload_n hX dX11_grow_102 rfl 1 rfl ?_
      refine J_imul hX dX11_grow_103 ?_
      refine J_iload_n hX dX11_grow_104 rfl 2 rfl ?_
      refine J_idiv hX dX11_grow_105 h (fun h => ?_)
      exact J_ireturn hX dX11_grow_106 h hF rfl
def f_X11_grow (x1 : Int32) (x2 : Int32) (m : Mm) : Option (Int32 × Mm) := stI m 78 0 (0 : Int32) (fun m1 => (if (gI m1 80 (ix (0 : Int32))) = 0 then some ((-1 : Int32), m1) else bd2 (f_X11_within x1 (1 : Int32) (3 : Int32) m1) (fun r3 m2 => (if r3 = 0 then some ((-1 : Int32), m2) else bd2 (f_X11_within x2 (0 : Int32) (1 : Int32) m2) (fun r5 m4 => (if r5 = 0 then some ((-1 : Int32), m4) else (if (13 : Int32) < ((gI m1 80 (ix (0 : Int32))) + x1) then some ((-1 : Int32), m4) else bd2 (f_X11_allStripes (0 : Int32) ((gI m1 80 (ix (0 : Int32))) + x1) m4) (fun r7 m6 => (if (40 : Int32) < r7 then some ((-1 : Int32), m6) else (if x2 = (1 : Int32) then f_X11_grow_L71 FU x1 ((gI m1 80 (ix (0 : Int32))) + x1) (0 : Int32) (0 : Int32)  m6 else bd1 (f_X11_laysAll (1 : Int32) ((gI m1 80 (ix (0 : Int32))) + x1) m6) (fun m8 => f_X11_grow_L119 FU (0 : Int32) (0 : Int32)  m8)))))))))))
theorem t_X11_grow {X : XX} {G : GG} {ρ : Nat → Nat} {n t u w v : Nat} {x : Option Nat} {d : Nat} (hX : Ok X G ρ cX11_grow 6 RX11 d) (hd0 : 5 ≤ d) (hn : 126 ≤ n) {rE : Int32} {mE : Mm} (hF : Fin' X G ρ n (some .int) (some (.int rE)) (RT t u w v x) mE) {x1 : Int32} {x2 : Int32} {m : Mm} (h : f_X11_grow x1 x2 m = some (rE, mE)) : J X G ρ n 6 0 [(0, .ref 78), (1, .int x1), (2, .int x2)] [] (RT t u w v x) m := by
  unfold f_X11_grow at h
  refine J_aload_n hX dX11_grow_0 rfl 0 rfl ?_
  refine J_iconst hX (0 : Int32) dX11_grow_1 ic_0 ?_
  refine J_putI hX dX11_grow_2 pl_RX11_152 (ltn ltc_78 hn) lo_78 rfl rfl rfl h (fun m1 h => ?_)
  refine J_aload_n hX dX11_grow_5 rfl 0 rfl ?_
  refine J_getR hX dX11_grow_6 fl_RX11_13 (ltn ltc_78 hn) lo_78 rfl (rt_78_10 _ _ _ _ _) ?_
  refine J_iconst hX (0 : Int32) dX11_grow_9 ic_0 ?_
  refine J_iaload0 hX dX11_grow_10 (ltn ltc_80 hn) lay_80 (by decide) ?_
  refine J_iload_n hX dX11_grow_11 rfl 1 rfl ?_
  refine J_iadd hX dX11_grow_12 ?_
  refine J_istore_n hX [(3, .int ((gI m1 80 (ix (0 : Int32))) + x1)), (0, .ref 78), (1, .int x1), (2, .int x2)] dX11_grow_13 rfl (by decide) rfl ?_
  refine J_aload_n hX dX11_grow_14 rfl 1 rfl ?_
  refine J_getR hX dX11_grow_15 fl_RX11_13 (ltn ltc_78 hn) lo_78 rfl (rt_78_10 _ _ _ _ _) ?_
  refine J_iconst hX (0 : Int32) dX11_grow_18 ic_0 ?_
  refine J_iaload0 hX dX11_grow_19 (ltn ltc_80 hn) lay_80 (by decide) ?_
  refine J_if_eq hX 58 dX11_grow_20 (by decide) h (fun c h => ?_) (fun c h => ?_)
  · refine J_iconst hX (-1 : Int32) dX11_grow_58 ic_m1 ?_
    exact J_ireturn hX dX11_grow_59 h hF rfl
  · refine J_iload_n hX dX11_grow_23 rfl 2 rfl ?_
    refine J_iconst hX (1 : Int32) dX11_grow_24 ic_1 ?_
    refine J_iconst hX (3 : Int32) dX11_grow_25 ic_3 ?_
    obtain ⟨r3, m2, h0, h⟩ := bd2_some h
    refine J_callSi (As := [.int x1, .int (1 : Int32), .int (3 : Int32)]) (st := []) hX dX11_grow_26 cw_RX11_239 (by omega) (c_X11_within hn  h0) rfl rfl (Nat.le_of_ble_eq_true rfl) ?_
    clear h0
    refine J_if_eq hX 58 dX11_grow_29 (by decide) h (fun c h => ?_) (fun c h => ?_)
    · refine J_iconst hX (-1 : Int32) dX11_grow_58 ic_m1 ?_
      exact J_ireturn hX dX11_grow_59 h hF rfl
    · refine J_iload_n hX dX11_grow_32 rfl 3 rfl ?_
      refine J_iconst hX (0 : Int32) dX11_grow_33 ic_0 ?_
      refine J_iconst hX (1 : Int32) dX11_grow_34 ic_1 ?_
      obtain ⟨r5, m4, h0, h⟩ := bd2_some h
      refine J_callSi (As := [.int x2, .int (0 : Int32), .int (1 : Int32)]) (st := []) hX dX11_grow_35 cw_RX11_239 (by omega) (c_X11_within hn  h0) rfl rfl (Nat.le_of_ble_eq_true rfl) ?_
      clear h0
      refine J_if_eq hX 58 dX11_grow_38 (by decide) h (fun c h => ?_) (fun c h => ?_)
      · refine J_iconst hX (-1 : Int32) dX11_grow_58 ic_m1 ?_
        exact J_ireturn hX dX11_grow_59 h hF rfl
      · refine J_iload_n hX dX11_grow_41 rfl 0 rfl ?_
        refine J_bipush hX (13 : Int32) dX11_grow_42 (by decide) ?_
        refine J_icmp_gt hX 58 dX11_grow_44 (by decide) h (fun c h => ?_) (fun c h => ?_)
        · refine J_iconst hX (-1 : Int32) dX11_grow_58 ic_m1 ?_
          exact J_ireturn hX dX11_grow_59 h hF rfl
        · refine J_aload_n hX dX11_grow_47 rfl 1 rfl ?_
          refine J_iconst hX (0 : Int32) dX11_grow_48 ic_0 ?_
          refine J_iload_n hX dX11_grow_49 rfl 0 rfl ?_
          obtain ⟨r7, m6, h0, h⟩ := bd2_some h
          refine J_callVi (As := [.int (0 : Int32), .int ((gI m1 80 (ix (0 : Int32))) + x1)]) (st := []) hX dX11_grow_50 cw_RX11_276 (by omega) (c_X11_allStripes hn  h0) (ltn ltc_78 hn) lo_78 (by decide) rfl rfl rfl (Nat.le_of_ble_eq_true rfl) ?_
          clear h0
          refine J_bipush hX (40 : Int32) dX11_grow_53 (by decide) ?_
          refine J_icmp_le hX 60 dX11_grow_55 (by decide) h (fun c h => ?_) (fun c h => ?_)
          · refine J_iconst hX (-1 : Int32) dX11_grow_58 ic_m1 ?_
            exact J_ireturn hX dX11_grow_59 h hF rfl
          · refine J_iload_n hX dX11_grow_60 rfl 3 rfl ?_
            refine J_iconst hX (1 : Int32) dX11_grow_61 ic_1 ?_
            refine J_icmp_ne hX 107 dX11_grow_62 (by decide) h (fun c h => ?_) (fun c h => ?_)
            · refine J_iconst hX (0 : Int32) dX11_grow_65 ic_0 ?_
              refine J_istore hX [(4, .int (0 : Int32)), (3, .int ((gI m1 80 (ix (0 : Int32))) + x1)), (0, .ref 78), (1, .int x1), (2, .int x2)] dX11_grow_66 (by decide) rfl ?_
              refine J_iconst hX (0 : Int32) dX11_grow_68 ic_0 ?_
              refine J_istore hX [(5, .int (0 : Int32)), (4, .int (0 : Int32)), (3, .int ((gI m1 80 (ix (0 : Int32))) + x1)), (0, .ref 78), (1, .int x1), (2, .int x2)] dX11_grow_69 (by decide) rfl ?_
              refine J_sub [(0, .ref 78), (1, .int x1), (3, .int ((gI m1 80 (ix (0 : Int32))) + x1)), (4, .int (0 : Int32)), (5, .int (0 : Int32))] [3, 4, 2, 1, 0] rfl ?_
              exact t_X11_grow_L71 hX hd0 hn hF FU x1 ((gI m1 80 (ix (0 : Int32))) + x1) (0 : Int32) (0 : Int32)  m6 h
            · refine J_aload_n hX dX11_grow_107 rfl 1 rfl ?_
              refine J_iconst hX (1 : Int32) dX11_grow_108 ic_1 ?_
              refine J_iload_n hX dX11_grow_109 rfl 0 rfl ?_
              obtain ⟨m8, h0, h⟩ := bd1_some h
              refine J_callVv (As := [.int (1 : Int32), .int ((gI m1 80 (ix (0 : Int32))) + x1)]) (st := []) hX dX11_grow_110 cw_RX11_345 (by omega) (c_X11_laysAll hn  h0) (ltn ltc_78 hn) lo_78 (by decide) rfl rfl rfl (Nat.le_of_ble_eq_true rfl) ?_
              clear h0
              refine J_iconst hX (0 : Int32) dX11_grow_113 ic_0 ?_
              refine J_istore hX [(4, .int (0 : Int32)), (3, .int ((gI m1 80 (ix (0 : Int32))) + x1)), (0, .ref 78), (1, .int x1), (2, .int x2)] dX11_grow_114 (by decide) rfl ?_
              refine J_iconst hX (0 : Int32) dX11_grow_116 ic_0 ?_
              refine J_istore hX [(5, .int (0 : Int32)), (4, .int (0 : Int32)), (3, .int ((gI m1 80 (ix (0 : Int32))) + x1)), (0, .ref 78), (1, .int x1), (2, .int x2)] dX11_grow_117 (by decide) rfl ?_
              refine J_sub [(0, .ref 78), (4, .int (0 : Int32)), (5, .int (0 : Int32))] [3, 1, 0] rfl ?_
              exact t_X11_grow_L119 hX hd0 hn hF FU (0 : Int32) (0 : Int32)  m8 h
theorem c_X11_grow {G : GG} {l : Launch} {ρ : Nat → Nat} {n t u w v : Nat} {x : Option Nat} (hn : 126 ≤ n) {x1 : Int32} {x2 : Int32} {m : Mm} {rE : Int32} {mE : Mm} (h : f_X11_grow x1 x2 m = some (rE, mE)) : CT G l yX11_grow cX11_grow 6 (some .int) 5 0 0 ρ n (RT t u w v x) [.ref 78, .int x1, .int x2] m (some (.int rE)) (RT t u w v x) mE := ct_of_J (by decide) rfl (Nat.le_of_ble_eq_true rfl) (fun X hX e1 e2 e3 e4 hQ hr hl => t_X11_grow hX (Nat.le_refl _) hn ⟨by rw [hQ, e3, e4], hr, hl⟩ h)
def f_X6_lostAt_L18 (a : Nat) (v1 : Int32) (v3 : Int32) (K : Int32 → Mm → Option (Int32 × Mm)) : Nat → Int32 → Int32 → Mm → Option (Int32 × Mm)
  | 0, _, _, _ => none
  | k + 1, v2, v4, m => gd (inb v3 40) ((if v4 < (gI m 27 (ix v3)) then gd (inb ((v3 * (5 : Int32)) + v4) 200) ((if (gI m (a + 1) (ix ((v3 * (5 : Int32)) + v4))) = (2 : Int32) then (if v2 = v1 then some (((v3 * (5 : Int32)) + v4), m) else f_X6_lostAt_L18 a v1 v3 K k (v2 + (1 : Int32)) (v4 + (1 : Int32)) m) else f_X6_lostAt_L18 a v1 v3 K k v2 (v4 + (1 : Int32)) m)) else K v2 m))
theorem t_X6_lostAt_L18 {X : XX} {G : GG} {ρ : Nat → Nat} {n t u w v : Nat} {x : Option Nat} {d : Nat} {a : Nat} (hX : Ok X G ρ cX6_lostAt 5 RX6 d) (hd0 : 0 ≤ d) (hn : 126 ≤ n) (ha : isSt a) {rE : Int32} {mE : Mm} (hF : Fin' X G ρ n (some .int) (some (.int rE)) (RT t u w v x) mE) {v1 : Int32} {v3 : Int32} {K : Int32 → Mm → Option (Int32 × Mm)} (hK : ∀ (w2 : Int32) (m : Mm), K w2 m = some (rE, mE) → J X G ρ n 5 68 [(0, .ref a), (1, .int v1), (2, .int w2), (3, .int v3)] [] (RT t u w v x) m) : ∀ (k : Nat) (v2 : Int32) (v4 : Int32) (m : Mm), f_X6_lostAt_L18 a v1 v3 K k v2 v4 m = some (rE, mE) → J X G ρ n 5 18 [(0, .ref a), (1, .int v1), (2, .int v2), (3, .int v3), (4, .int v4)] [] (RT t u w v x) m := by
  intro k
  induction k with
  | zero => intro _ _ _ h; rw [f_X6_lostAt_L18] at h; cases h
  | succ k ih =>
    intro v2 v4 m h
    rw [f_X6_lostAt_L18] at h
    refine J_iload hX dX6_lostAt_18 4 rfl ?_
    refine J_aload_n hX dX6_lostAt_20 rfl 0 rfl ?_
    refine J_getR hX dX6_lostAt_21 fl_RX6_24 (ltn (lt_isSt_0 ha) hn) (lo_isSt_0 ha) rfl (rt_isSt_0_0 _ _ _ _ _ ha) ?_
    refine J_getR hX dX6_lostAt_24 fl_RX6_61 (ltn ltc_26 hn) lo_26 rfl (rt_26_3 _ _ _ _ _) ?_
    refine J_iload_n hX dX6_lostAt_27 rfl 3 rfl ?_
    refine J_iaload hX dX6_lostAt_28 (ltn ltc_27 hn) lay_27 h (fun h => ?_)
    refine J_icmp_ge hX 68 dX6_lostAt_29 (by decide) h (fun c h => ?_) (fun c h => ?_)
    · refine J_aload_n hX dX6_lostAt_32 rfl 0 rfl ?_
      refine J_getR hX dX6_lostAt_33 fl_RX6_9 (ltn (lt_isSt_0 ha) hn) (lo_isSt_0 ha) rfl (rt_isSt_0_2 _ _ _ _ _ ha) ?_
      refine J_iload_n hX dX6_lostAt_36 rfl 3 rfl ?_
      refine J_iconst hX (5 : Int32) dX6_lostAt_37 ic_5 ?_
      refine J_imul hX dX6_lostAt_38 ?_
      refine J_iload hX dX6_lostAt_39 4 rfl ?_
      refine J_iadd hX dX6_lostAt_41 ?_
      refine J_iaload hX dX6_lostAt_42 (ltn (lt_isSt_1 ha) hn) (lay_isSt_1 ha) h (fun h => ?_)
      refine J_iconst hX (2 : Int32) dX6_lostAt_43 ic_2 ?_
      refine J_icmp_ne hX 62 dX6_lostAt_44 (by decide) h (fun c h => ?_) (fun c h => ?_)
      · refine J_iload_n hX dX6_lostAt_47 rfl 2 rfl ?_
        refine J_iload_n hX dX6_lostAt_48 rfl 1 rfl ?_
        refine J_icmp_ne hX 59 dX6_lostAt_49 (by decide) h (fun c h => ?_) (fun c h => ?_)
        · refine J_iload_n hX dX6_lostAt_52 rfl 3 rfl ?_
          refine J_iconst hX (5 : Int32) dX6_lostAt_53 ic_5 ?_
          refine J_imul hX dX6_lostAt_54 ?_
          refine J_iload hX dX6_lostAt_55 4 rfl ?_
          refine J_iadd hX dX6_lostAt_57 ?_
          exact J_ireturn hX dX6_lostAt_58 h hF rfl
        · refine J_iinc hX (v2 + (1 : Int32)) [(2, .int (v2 + (1 : Int32))), (0, .ref a), (1, .int v1), (3, .int v3), (4, .int v4)] dX6_lostAt_59 2 rfl (congrArg (fun z => v2 + z) ic_1) (by decide) rfl ?_
          refine J_iinc hX (v4 + (1 : Int32)) [(4, .int (v4 + (1 : Int32))), (2, .int (v2 + (1 : Int32))), (0, .ref a), (1, .int v1), (3, .int v3)] dX6_lostAt_62 4 rfl (congrArg (fun z => v4 + z) ic_1) (by decide) rfl ?_
          refine J_goto hX 18 dX6_lostAt_65 (by decide) ?_
          refine J_sub [(0, .ref a), (1, .int v1), (2, .int (v2 + (1 : Int32))), (3, .int v3), (4, .int (v4 + (1 : Int32)))] [2, 3, 1, 4, 0] rfl ?_
          exact ih (v2 + (1 : Int32)) (v4 + (1 : Int32)) m h
      · refine J_iinc hX (v4 + (1 : Int32)) [(4, .int (v4 + (1 : Int32))), (0, .ref a), (1, .int v1), (2, .int v2), (3, .int v3)] dX6_lostAt_62 4 rfl (congrArg (fun z => v4 + z) ic_1) (by decide) rfl ?_
        refine J_goto hX 18 dX6_lostAt_65 (by decide) ?_
        refine J_sub [(0, .ref a), (1, .int v1), (2, .int v2), (3, .int v3), (4, .int (v4 + (1 : Int32)))] [1, 2, 3, 4, 0] rfl ?_
        exact ih v2 (v4 + (1 : Int32)) m h
    · refine J_sub [(0, .ref a), (1, .int v1), (2, .int v2), (3, .int v3)] [0, 1, 2, 3] rfl ?_
      exact hK v2 m h
def f_X6_lostAt_L4 (a : Nat) : Nat → Int32 → Int32 → Int32 →  Mm → Option (Int32 × Mm)
  | 0, _, _, _, _ => none
  | k + 1, v1, v2, v3, m => (if v3 < (gI m 26 1) then f_X6_lostAt_L18 a v1 v3 (fun w1 m2 => f_X6_lostAt_L4 a k v1 w1 (v3 + (1 : Int32)) m2) FU v2 (0 : Int32) m else some ((-1 : Int32), m))
theorem t_X6_lostAt_L4 {X : XX} {G : GG} {ρ : Nat → Nat} {n t u w v : Nat} {x : Option Nat} {d : Nat} {a : Nat} (hX : Ok X G ρ cX6_lostAt 5 RX6 d) (hd0 : 0 ≤ d) (hn : 126 ≤ n) (ha : isSt a) {rE : Int32} {mE : Mm} (hF : Fin' X G ρ n (some .int) (some (.int rE)) (RT t u w v x) mE) : ∀ (k : Nat) (v1 : Int32) (v2 : Int32) (v3 : Int32) (m : Mm), f_X6_lostAt_L4 a k v1 v2 v3 m = some (rE, mE) → J X G ρ n 5 4 [(0, .ref a), (1, .int v1), (2, .int v2), (3, .int v3)] [] (RT t u w v x) m := by
  intro k
  induction k with
  | zero => intro _ _ _ _ h; rw [f_X6_lostAt_L4] at h; cases h
  | succ k ih =>
    intro v1 v2 v3 m h
    rw [f_X6_lostAt_L4] at h
    refine J_iload_n hX dX6_lostAt_4 rfl 3 rfl ?_
    refine J_aload_n hX dX6_lostAt_5 rfl 0 rfl ?_
    refine J_getR hX dX6_lostAt_6 fl_RX6_24 (ltn (lt_isSt_0 ha) hn) (lo_isSt_0 ha) rfl (rt_isSt_0_0 _ _ _ _ _ ha) ?_
    refine J_getI hX dX6_lostAt_9 fl_RX6_76 (ltn ltc_26 hn) lo_26 rfl ?_
    refine J_icmp_ge hX 74 dX6_lostAt_12 (by decide) h (fun c h => ?_) (fun c h => ?_)
    · refine J_iconst hX (0 : Int32) dX6_lostAt_15 ic_0 ?_
      refine J_istore hX [(4, .int (0 : Int32)), (0, .ref a), (1, .int v1), (2, .int v2), (3, .int v3)] dX6_lostAt_16 (by decide) rfl ?_
      refine J_sub [(0, .ref a), (1, .int v1), (2, .int v2), (3, .int v3), (4, .int (0 : Int32))] [1, 2, 3, 4, 0] rfl ?_
      refine t_X6_lostAt_L18 hX hd0 hn ha hF (fun w1 m2 h => ?_) FU v2 (0 : Int32) m h
      refine J_iinc hX (v3 + (1 : Int32)) [(3, .int (v3 + (1 : Int32))), (0, .ref a), (1, .int v1), (2, .int w1)] dX6_lostAt_68 3 rfl (congrArg (fun z => v3 + z) ic_1) (by decide) rfl ?_
      refine J_goto hX 4 dX6_lostAt_71 (by decide) ?_
      refine J_sub [(0, .ref a), (1, .int v1), (2, .int w1), (3, .int (v3 + (1 : Int32)))] [1, 2, 3, 0] rfl ?_
      exact ih v1 w1 (v3 + (1 : Int32)) m2 h
    · refine J_iconst hX (-1 : Int32) dX6_lostAt_74 ic_m1 ?_
      exact J_ireturn hX dX6_lostAt_75 h hF rfl
def f_X6_lostAt (a : Nat) (x1 : Int32) (m : Mm) : Option (Int32 × Mm) := f_X6_lostAt_L4 a FU x1 (0 : Int32) (0 : Int32)  m
theorem t_X6_lostAt {X : XX} {G : GG} {ρ : Nat → Nat} {n t u w v : Nat} {x : Option Nat} {d : Nat} {a : Nat} (hX : Ok X G ρ cX6_lostAt 5 RX6 d) (hd0 : 0 ≤ d) (hn : 126 ≤ n) (ha : isSt a) {rE : Int32} {mE : Mm} (hF : Fin' X G ρ n (some .int) (some (.int rE)) (RT t u w v x) mE) {x1 : Int32} {m : Mm} (h : f_X6_lostAt a x1 m = some (rE, mE)) : J X G ρ n 5 0 [(0, .ref a), (1, .int x1)] [] (RT t u w v x) m := by
  unfold f_X6_lostAt at h
  refine J_iconst hX (0 : Int32) dX6_lostAt_0 ic_0 ?_
  refine J_istore_n hX [(2, .int (0 : Int32)), (0, .ref a), (1, .int x1)] dX6_lostAt_1 rfl (by decide) rfl ?_
  refine J_iconst hX (0 : Int32) dX6_lostAt_2 ic_0 ?_
  refine J_istore_n hX [(3, .int (0 : Int32)), (2, .int (0 : Int32)), (0, .ref a), (1, .int x1)] dX6_lostAt_3 rfl (by decide) rfl ?_
  refine J_sub [(0, .ref a), (1, .int x1), (2, .int (0 : Int32)), (3, .int (0 : Int32))] [2, 3, 1, 0] rfl ?_
  exact t_X6_lostAt_L4 hX hd0 hn ha hF FU x1 (0 : Int32) (0 : Int32)  m h
theorem c_X6_lostAt {G : GG} {l : Launch} {ρ : Nat → Nat} {n t u w v : Nat} {x : Option Nat} (hn : 126 ≤ n) {a : Nat} (ha : isSt a) {x1 : Int32} {m : Mm} {rE : Int32} {mE : Mm} (h : f_X6_lostAt a x1 m = some (rE, mE)) : CT G l yX6_lostAt cX6_lostAt 5 (some .int) 0 0 0 ρ n (RT t u w v x) [.ref a, .int x1] m (some (.int rE)) (RT t u w v x) mE := ct_of_J (by decide) rfl (Nat.le_of_ble_eq_true rfl) (fun X hX e1 e2 e3 e4 hQ hr hl => t_X6_lostAt hX (Nat.le_refl _) hn ha ⟨by rw [hQ, e3, e4], hr, hl⟩ h)
def f_X11_lost_L26 (v1 : Int32) (v3 : Int32) (K : Int32 → Mm → Option (Int32 × Mm)) : Nat → Int32 → Int32 → Mm → Option (Int32 × Mm)
  | 0, _, _, _ => none
  | k + 1, v2, v4, m => gd (inb v3 80) ((if v4 < (gI m 100 (ix v3)) then gd (inb (((14 : Int32) + ((5 : Int32) * v3)) + v4) 374) ((if (gI m 117 (ix (((14 : Int32) + ((5 : Int32) * v3)) + v4))) = (2 : Int32) then (if v2 = v1 then some ((((8 : Int32) * v3) + v4), m) else f_X11_lost_L26 v1 v3 K k (v2 + (1 : Int32)) (v4 + (1 : Int32)) m) else f_X11_lost_L26 v1 v3 K k v2 (v4 + (1 : Int32)) m)) else K v2 m))
theorem t_X11_lost_L26 {X : XX} {G : GG} {ρ : Nat → Nat} {n t u w v : Nat} {x : Option Nat} {d : Nat} (hX : Ok X G ρ cX11_lost 5 RX11 d) (hd0 : 0 ≤ d) (hn : 126 ≤ n) {rE : Int32} {mE : Mm} (hF : Fin' X G ρ n (some .int) (some (.int rE)) (RT t u w v x) mE) {v1 : Int32} {v3 : Int32} {K : Int32 → Mm → Option (Int32 × Mm)} (hK : ∀ (w2 : Int32) (m : Mm), K w2 m = some (rE, mE) → J X G ρ n 5 80 [(0, .ref 78), (1, .int v1), (2, .int w2), (3, .int v3)] [] (RT t u w v x) m) : ∀ (k : Nat) (v2 : Int32) (v4 : Int32) (m : Mm), f_X11_lost_L26 v1 v3 K k v2 v4 m = some (rE, mE) → J X G ρ n 5 26 [(0, .ref 78), (1, .int v1), (2, .int v2), (3, .int v3), (4, .int v4)] [] (RT t u w v x) m := by
  intro k
  induction k with
  | zero => intro _ _ _ h; rw [f_X11_lost_L26] at h; cases h
  | succ k ih =>
    intro v2 v4 m h
    rw [f_X11_lost_L26] at h
    refine J_iload hX dX11_lost_26 4 rfl ?_
    refine J_aload_n hX dX11_lost_28 rfl 0 rfl ?_
    refine J_getR hX dX11_lost_29 fl_RX11_74 (ltn ltc_78 hn) lo_78 rfl (rt_78_33 _ _ _ _ _) ?_
    refine J_iload_n hX dX11_lost_32 rfl 3 rfl ?_
    refine J_iaload hX dX11_lost_33 (ltn ltc_100 hn) lay_100 h (fun h => ?_)
    refine J_icmp_ge hX 80 dX11_lost_34 (by decide) h (fun c h => ?_) (fun c h => ?_)
    · refine J_aload_n hX dX11_lost_37 rfl 0 rfl ?_
      refine J_getR hX dX11_lost_38 fl_RX11_125 (ltn ltc_78 hn) lo_78 rfl (rt_78_50 _ _ _ _ _) ?_
      refine J_bipush hX (14 : Int32) dX11_lost_41 (by decide) ?_
      refine J_iconst hX (5 : Int32) dX11_lost_43 ic_5 ?_
      refine J_iload_n hX dX11_lost_44 rfl 3 rfl ?_
      refine J_imul hX dX11_lost_45 ?_
      refine J_iadd hX dX11_lost_46 ?_
      refine J_iload hX dX11_lost_47 4 rfl ?_
      refine J_iadd hX dX11_lost_49 ?_
      refine J_iaload hX dX11_lost_50 (ltn ltc_117 hn) lay_117 h (fun h => ?_)
      refine J_iconst hX (2 : Int32) dX11_lost_51 ic_2 ?_
      refine J_icmp_eq hX 58 dX11_lost_52 (by decide) h (fun c h => ?_) (fun c h => ?_)
      · refine J_iload_n hX dX11_lost_58 rfl 2 rfl ?_
        refine J_iload_n hX dX11_lost_59 rfl 1 rfl ?_
        refine J_icmp_ne hX 71 dX11_lost_60 (by decide) h (fun c h => ?_) (fun c h => ?_)
        · refine J_bipush hX (8 : Int32) dX11_lost_63 (by decide) ?_
          refine J_iload_n hX dX11_lost_65 rfl 3 rfl ?_
          refine J_imul hX dX11_lost_66 ?_
          refine J_iload hX dX11_lost_67 4 rfl ?_
          refine J_iadd hX dX11_lost_69 ?_
          exact J_ireturn hX dX11_lost_70 h hF rfl
        · refine J_iinc hX (v2 + (1 : Int32)) [(2, .int (v2 + (1 : Int32))), (0, .ref 78), (1, .int v1), (3, .int v3), (4, .int v4)] dX11_lost_71 2 rfl (congrArg (fun z => v2 + z) ic_1) (by decide) rfl ?_
          refine J_iinc hX (v4 + (1 : Int32)) [(4, .int (v4 + (1 : Int32))), (2, .int (v2 + (1 : Int32))), (0, .ref 78), (1, .int v1), (3, .int v3)] dX11_lost_74 4 rfl (congrArg (fun z => v4 + z) ic_1) (by decide) rfl ?_
          refine J_goto hX 26 dX11_lost_77 (by decide) ?_
          refine J_sub [(0, .ref 78), (1, .int v1), (2, .int (v2 + (1 : Int32))), (3, .int v3), (4, .int (v4 + (1 : Int32)))] [2, 3, 1, 4, 0] rfl ?_
          exact ih (v2 + (1 : Int32)) (v4 + (1 : Int32)) m h
      · refine J_goto hX 74 dX11_lost_55 (by decide) ?_
        refine J_iinc hX (v4 + (1 : Int32)) [(4, .int (v4 + (1 : Int32))), (0, .ref 78), (1, .int v1), (2, .int v2), (3, .int v3)] dX11_lost_74 4 rfl (congrArg (fun z => v4 + z) ic_1) (by decide) rfl ?_
        refine J_goto hX 26 dX11_lost_77 (by decide) ?_
        refine J_sub [(0, .ref 78), (1, .int v1), (2, .int v2), (3, .int v3), (4, .int (v4 + (1 : Int32)))] [1, 2, 3, 4, 0] rfl ?_
        exact ih v2 (v4 + (1 : Int32)) m h
    · refine J_sub [(0, .ref 78), (1, .int v1), (2, .int v2), (3, .int v3)] [0, 1, 2, 3] rfl ?_
      exact hK v2 m h
def f_X11_lost_L9 : Nat → Int32 → Int32 → Int32 →  Mm → Option (Int32 × Mm)
  | 0, _, _, _, _ => none
  | k + 1, v1, v2, v3, m => (if v3 < (gI m 99 (ix (0 : Int32))) then (if v1 < 0 then stI m 78 0 (1 : Int32) (fun m3 => some ((0 : Int32), m3)) else f_X11_lost_L26 v1 v3 (fun w4 m5 => f_X11_lost_L9 k v1 w4 (v3 + (1 : Int32)) m5) FU v2 (0 : Int32) m) else stI m 78 0 (1 : Int32) (fun m2 => some ((0 : Int32), m2)))
theorem t_X11_lost_L9 {X : XX} {G : GG} {ρ : Nat → Nat} {n t u w v : Nat} {x : Option Nat} {d : Nat} (hX : Ok X G ρ cX11_lost 5 RX11 d) (hd0 : 0 ≤ d) (hn : 126 ≤ n) {rE : Int32} {mE : Mm} (hF : Fin' X G ρ n (some .int) (some (.int rE)) (RT t u w v x) mE) : ∀ (k : Nat) (v1 : Int32) (v2 : Int32) (v3 : Int32) (m : Mm), f_X11_lost_L9 k v1 v2 v3 m = some (rE, mE) → J X G ρ n 5 9 [(0, .ref 78), (1, .int v1), (2, .int v2), (3, .int v3)] [] (RT t u w v x) m := by
  intro k
  induction k with
  | zero => intro _ _ _ _ h; rw [f_X11_lost_L9] at h; cases h
  | succ k ih =>
    intro v1 v2 v3 m h
    rw [f_X11_lost_L9] at h
    refine J_iload_n hX dX11_lost_9 rfl 3 rfl ?_
    refine J_aload_n hX dX11_lost_10 rfl 0 rfl ?_
    refine J_getR hX dX11_lost_11 fl_RX11_71 (ltn ltc_78 hn) lo_78 rfl (rt_78_32 _ _ _ _ _) ?_
    refine J_iconst hX (0 : Int32) dX11_lost_14 ic_0 ?_
    refine J_iaload0 hX dX11_lost_15 (ltn ltc_99 hn) lay_99 (by decide) ?_
    refine J_icmp_ge hX 86 dX11_lost_16 (by decide) h (fun c h => ?_) (fun c h => ?_)
    · refine J_iload_n hX dX11_lost_19 rfl 1 rfl ?_
      refine J_if_lt hX 86 dX11_lost_20 (by decide) h (fun c h => ?_) (fun c h => ?_)
      · refine J_aload_n hX dX11_lost_86 rfl 0 rfl ?_
        refine J_iconst hX (1 : Int32) dX11_lost_87 ic_1 ?_
        refine J_putI hX dX11_lost_88 pl_RX11_152 (ltn ltc_78 hn) lo_78 rfl rfl rfl h (fun m3 h => ?_)
        refine J_iconst hX (0 : Int32) dX11_lost_91 ic_0 ?_
        exact J_ireturn hX dX11_lost_92 h hF rfl
      · refine J_iconst hX (0 : Int32) dX11_lost_23 ic_0 ?_
        refine J_istore hX [(4, .int (0 : Int32)), (0, .ref 78), (1, .int v1), (2, .int v2), (3, .int v3)] dX11_lost_24 (by decide) rfl ?_
        refine J_sub [(0, .ref 78), (1, .int v1), (2, .int v2), (3, .int v3), (4, .int (0 : Int32))] [1, 2, 3, 4, 0] rfl ?_
        refine t_X11_lost_L26 hX hd0 hn hF (fun w4 m5 h => ?_) FU v2 (0 : Int32) m h
        refine J_iinc hX (v3 + (1 : Int32)) [(3, .int (v3 + (1 : Int32))), (0, .ref 78), (1, .int v1), (2, .int w4)] dX11_lost_80 3 rfl (congrArg (fun z => v3 + z) ic_1) (by decide) rfl ?_
        refine J_goto hX 9 dX11_lost_83 (by decide) ?_
        refine J_sub [(0, .ref 78), (1, .int v1), (2, .int w4), (3, .int (v3 + (1 : Int32)))] [1, 2, 3, 0] rfl ?_
        exact ih v1 w4 (v3 + (1 : Int32)) m5 h
    · refine J_aload_n hX dX11_lost_86 rfl 0 rfl ?_
      refine J_iconst hX (1 : Int32) dX11_lost_87 ic_1 ?_
      refine J_putI hX dX11_lost_88 pl_RX11_152 (ltn ltc_78 hn) lo_78 rfl rfl rfl h (fun m2 h => ?_)
      refine J_iconst hX (0 : Int32) dX11_lost_91 ic_0 ?_
      exact J_ireturn hX dX11_lost_92 h hF rfl
def f_X11_lost (x1 : Int32) (m : Mm) : Option (Int32 × Mm) := stI m 78 0 (0 : Int32) (fun m1 => f_X11_lost_L9 FU x1 (0 : Int32) (0 : Int32)  m1)
theorem t_X11_lost {X : XX} {G : GG} {ρ : Nat → Nat} {n t u w v : Nat} {x : Option Nat} {d : Nat} (hX : Ok X G ρ cX11_lost 5 RX11 d) (hd0 : 0 ≤ d) (hn : 126 ≤ n) {rE : Int32} {mE : Mm} (hF : Fin' X G ρ n (some .int) (some (.int rE)) (RT t u w v x) mE) {x1 : Int32} {m : Mm} (h : f_X11_lost x1 m = some (rE, mE)) : J X G ρ n 5 0 [(0, .ref 78), (1, .int x1)] [] (RT t u w v x) m := by
  unfold f_X11_lost at h
  refine J_aload_n hX dX11_lost_0 rfl 0 rfl ?_
  refine J_iconst hX (0 : Int32) dX11_lost_1 ic_0 ?_
  refine J_putI hX dX11_lost_2 pl_RX11_152 (ltn ltc_78 hn) lo_78 rfl rfl rfl h (fun m1 h => ?_)
  refine J_iconst hX (0 : Int32) dX11_lost_5 ic_0 ?_
  refine J_istore_n hX [(2, .int (0 : Int32)), (0, .ref 78), (1, .int x1)] dX11_lost_6 rfl (by decide) rfl ?_
  refine J_iconst hX (0 : Int32) dX11_lost_7 ic_0 ?_
  refine J_istore_n hX [(3, .int (0 : Int32)), (2, .int (0 : Int32)), (0, .ref 78), (1, .int x1)] dX11_lost_8 rfl (by decide) rfl ?_
  refine J_sub [(0, .ref 78), (1, .int x1), (2, .int (0 : Int32)), (3, .int (0 : Int32))] [2, 3, 1, 0] rfl ?_
  exact t_X11_lost_L9 hX hd0 hn hF FU x1 (0 : Int32) (0 : Int32)  m1 h
theorem c_X11_lost {G : GG} {l : Launch} {ρ : Nat → Nat} {n t u w v : Nat} {x : Option Nat} (hn : 126 ≤ n) {x1 : Int32} {m : Mm} {rE : Int32} {mE : Mm} (h : f_X11_lost x1 m = some (rE, mE)) : CT G l yX11_lost cX11_lost 5 (some .int) 0 0 0 ρ n (RT t u w v x) [.ref 78, .int x1] m (some (.int rE)) (RT t u w v x) mE := ct_of_J (by decide) rfl (Nat.le_of_ble_eq_true rfl) (fun X hX e1 e2 e3 e4 hQ hr hl => t_X11_lost hX (Nat.le_refl _) hn ⟨by rw [hQ, e3, e4], hr, hl⟩ h)
def f_X11_thrown (m : Mm) : Option (Int32 × Mm) := some ((gI m 78 0), m)
theorem t_X11_thrown {X : XX} {G : GG} {ρ : Nat → Nat} {n t u w v : Nat} {x : Option Nat} {d : Nat} (hX : Ok X G ρ cX11_thrown 1 RX11 d) (hd0 : 0 ≤ d) (hn : 126 ≤ n) {rE : Int32} {mE : Mm} (hF : Fin' X G ρ n (some .int) (some (.int rE)) (RT t u w v x) mE) {m : Mm} (h : f_X11_thrown m = some (rE, mE)) : J X G ρ n 1 0 [(0, .ref 78)] [] (RT t u w v x) m := by
  unfold f_X11_thrown at h
  refine J_aload_n hX dX11_thrown_0 rfl 0 rfl ?_
  refine J_getI hX dX11_thrown_1 fl_RX11_152 (ltn ltc_78 hn) lo_78 rfl ?_
  exact J_ireturn hX dX11_thrown_4 h hF rfl
theorem c_X11_thrown {G : GG} {l : Launch} {ρ : Nat → Nat} {n t u w v : Nat} {x : Option Nat} (hn : 126 ≤ n) {m : Mm} {rE : Int32} {mE : Mm} (h : f_X11_thrown m = some (rE, mE)) : CT G l yX11_thrown cX11_thrown 1 (some .int) 0 0 0 ρ n (RT t u w v x) [.ref 78] m (some (.int rE)) (RT t u w v x) mE := ct_of_J (by decide) rfl (Nat.le_of_ble_eq_true rfl) (fun X hX e1 e2 e3 e4 hQ hr hl => t_X11_thrown hX (Nat.le_refl _) hn ⟨by rw [hQ, e3, e4], hr, hl⟩ h)
def f_X6_addSeen_J40 (a : Nat) (s0 : Int32) (s1 : Int32) (m : Mm) : Option (Int32 × Mm) := stI m a 7 (s1 ||| s0) (fun m2 => stI m2 a 5 ((gI m2 a 5) + (1 : Int32)) (fun m3 => some ((1 : Int32), m3)))
theorem t_X6_addSeen_J40 {X : XX} {G : GG} {ρ : Nat → Nat} {n t u w v : Nat} {x : Option Nat} {d : Nat} {a : Nat} (hX : Ok X G ρ cX6_addSeen 3 RX6 d) (hd0 : 0 ≤ d) (hn : 126 ≤ n) (ha : isSt a) {rE : Int32} {mE : Mm} (hF : Fin' X G ρ n (some .boolean) (some (.int rE)) (RT t u w v x) mE) (s0 : Int32) (s1 : Int32) (m : Mm) (h : f_X6_addSeen_J40 a s0 s1 m = some (rE, mE)) : J X G ρ n 3 40 [(0, .ref a)] [.int s0, .int s1, .ref a] (RT t u w v x) m := by
  unfold f_X6_addSeen_J40 at h
  refine J_ior hX dX6_addSeen_40 ?_
  refine J_putI hX dX6_addSeen_41 pl_RX6_40 (ltn (lt_isSt_0 ha) hn) (lo_isSt_0 ha) rfl rfl rfl h (fun m2 h => ?_)
  refine J_aload_n hX dX6_addSeen_44 rfl 0 rfl ?_
  refine J_dup hX dX6_addSeen_45 rfl ?_
  refine J_getI hX dX6_addSeen_46 fl_RX6_37 (ltn (lt_isSt_0 ha) hn) (lo_isSt_0 ha) rfl ?_
  refine J_iconst hX (1 : Int32) dX6_addSeen_49 ic_1 ?_
  refine J_iadd hX dX6_addSeen_50 ?_
  refine J_putI hX dX6_addSeen_51 pl_RX6_37 (ltn (lt_isSt_0 ha) hn) (lo_isSt_0 ha) rfl rfl rfl h (fun m3 h => ?_)
  refine J_iconst hX (1 : Int32) dX6_addSeen_54 ic_1 ?_
  exact J_ireturn hX dX6_addSeen_55 h hF narrow_b1
def f_X6_addSeen (a : Nat) (x1 : Int32) (x2 : Int32) (m : Mm) : Option (Int32 × Mm) := (if (gI m a 5) < (8 : Int32) then gd (inb (gI m a 5) 8) (stI m (a + 4) (ix (gI m a 5)) x1 (fun m1 => (if x2 = 0 then f_X6_addSeen_J40 a  (0 : Int32) (gI m1 a 7) m1 else f_X6_addSeen_J40 a  ((1 : Int32) <<< ((gI m1 a 5) &&& 31)) (gI m1 a 7) m1))) else some ((0 : Int32), m))
theorem t_X6_addSeen {X : XX} {G : GG} {ρ : Nat → Nat} {n t u w v : Nat} {x : Option Nat} {d : Nat} {a : Nat} (hX : Ok X G ρ cX6_addSeen 3 RX6 d) (hd0 : 0 ≤ d) (hn : 126 ≤ n) (ha : isSt a) {rE : Int32} {mE : Mm} (hF : Fin' X G ρ n (some .boolean) (some (.int rE)) (RT t u w v x) mE) {x1 : Int32} {x2 : Int32} {m : Mm} (h : f_X6_addSeen a x1 x2 m = some (rE, mE)) : J X G ρ n 3 0 [(0, .ref a), (1, .int x1), (2, .int x2)] [] (RT t u w v x) m := by
  unfold f_X6_addSeen at h
  refine J_aload_n hX dX6_addSeen_0 rfl 0 rfl ?_
  refine J_getI hX dX6_addSeen_1 fl_RX6_37 (ltn (lt_isSt_0 ha) hn) (lo_isSt_0 ha) rfl ?_
  refine J_bipush hX (8 : Int32) dX6_addSeen_4 (by decide) ?_
  refine J_icmp_lt hX 11 dX6_addSeen_6 (by decide) h (fun c h => ?_) (fun c h => ?_)
  · refine J_aload_n hX dX6_addSeen_11 rfl 0 rfl ?_
    refine J_getR hX dX6_addSeen_12 fl_RX6_21 (ltn (lt_isSt_0 ha) hn) (lo_isSt_0 ha) rfl (rt_isSt_0_6 _ _ _ _ _ ha) ?_
    refine J_aload_n hX dX6_addSeen_15 rfl 0 rfl ?_
    refine J_getI hX dX6_addSeen_16 fl_RX6_37 (ltn (lt_isSt_0 ha) hn) (lo_isSt_0 ha) rfl ?_
    refine J_iload_n hX dX6_addSeen_19 rfl 1 rfl ?_
    refine J_iastore hX dX6_addSeen_20 (ltn (lt_isSt_4 ha) hn) (lay_isSt_4 ha) h (fun m1 h => ?_)
    refine J_aload_n hX dX6_addSeen_21 rfl 0 rfl ?_
    refine J_dup hX dX6_addSeen_22 rfl ?_
    refine J_getI hX dX6_addSeen_23 fl_RX6_40 (ltn (lt_isSt_0 ha) hn) (lo_isSt_0 ha) rfl ?_
    refine J_iload_n hX dX6_addSeen_26 rfl 2 rfl ?_
    refine J_if_eq hX 39 dX6_addSeen_27 (by decide) h (fun c h => ?_) (fun c h => ?_)
    · refine J_iconst hX (0 : Int32) dX6_addSeen_39 ic_0 ?_
      refine J_sub [(0, .ref a)] [0] rfl ?_
      exact t_X6_addSeen_J40 hX hd0 hn ha hF  (0 : Int32) (gI m1 a 7) m1 h
    · refine J_iconst hX (1 : Int32) dX6_addSeen_30 ic_1 ?_
      refine J_aload_n hX dX6_addSeen_31 rfl 0 rfl ?_
      refine J_getI hX dX6_addSeen_32 fl_RX6_37 (ltn (lt_isSt_0 ha) hn) (lo_isSt_0 ha) rfl ?_
      refine J_ishl hX dX6_addSeen_35 ?_
      refine J_goto hX 40 dX6_addSeen_36 (by decide) ?_
      refine J_sub [(0, .ref a)] [0] rfl ?_
      exact t_X6_addSeen_J40 hX hd0 hn ha hF  ((1 : Int32) <<< ((gI m1 a 5) &&& 31)) (gI m1 a 7) m1 h
  · refine J_iconst hX (0 : Int32) dX6_addSeen_9 ic_0 ?_
    exact J_ireturn hX dX6_addSeen_10 h hF narrow_b0
theorem c_X6_addSeen {G : GG} {l : Launch} {ρ : Nat → Nat} {n t u w v : Nat} {x : Option Nat} (hn : 126 ≤ n) {a : Nat} (ha : isSt a) {x1 : Int32} {x2 : Int32} {m : Mm} {rE : Int32} {mE : Mm} (h : f_X6_addSeen a x1 x2 m = some (rE, mE)) : CT G l yX6_addSeen cX6_addSeen 3 (some .boolean) 0 0 0 ρ n (RT t u w v x) [.ref a, .int x1, .int x2] m (some (.int rE)) (RT t u w v x) mE := ct_of_J (by decide) rfl (Nat.le_of_ble_eq_true rfl) (fun X hX e1 e2 e3 e4 hQ hr hl => t_X6_addSeen hX (Nat.le_refl _) hn ha ⟨by rw [hQ, e3, e4], hr, hl⟩ h)
def f_X10_see (t : Nat) (u : Nat) (w : Nat) (v : Nat) (x1 : Int32) (x2 : Int32) (m : Mm) : Option (Int32 × Mm) := bd2 (f_X10_isDatum t u w v x1 m) (fun r2 m1 => (if r2 = 0 then some ((0 : Int32), m1) else bd2 (f_X6_addSeen 54 x1 x2 m1) (fun r4 m3 => (if r4 = 0 then some ((0 : Int32), m3) else some ((1 : Int32), m3)))))
theorem t_X10_see {X : XX} {G : GG} {ρ : Nat → Nat} {n : Nat} {x : Option Nat} {d : Nat} {t : Nat} {u : Nat} {w : Nat} {v : Nat} (hX : Ok X G ρ cX10_see 3 RX10 d) (hd0 : 1 ≤ d) (hn : 126 ≤ n) (ht : isTo t) (hu : isTo u) (hw : isWk w) (hv : isWk v) {rE : Int32} {mE : Mm} (hF : Fin' X G ρ n (some .boolean) (some (.int rE)) (RT t u w v x) mE) {x1 : Int32} {x2 : Int32} {m : Mm} (h : f_X10_see t u w v x1 x2 m = some (rE, mE)) : J X G ρ n 3 0 [(0, .ref 0), (1, .int x1), (2, .int x2)] [] (RT t u w v x) m := by
  unfold f_X10_see at h
  refine J_aload_n hX dX10_see_0 rfl 0 rfl ?_
  refine J_iload_n hX dX10_see_1 rfl 1 rfl ?_
  obtain ⟨r2, m1, h0, h⟩ := bd2_some h
  refine J_callVi (As := [.int x1]) (st := []) hX dX10_see_2 cw_RX10_156 (by omega) (c_X10_isDatum hn ht hu hw hv h0) (ltn ltc_0 hn) lo_0 (by decide) rfl rfl rfl (Nat.le_of_ble_eq_true rfl) ?_
  clear h0
  refine J_if_eq hX 24 dX10_see_5 (by decide) h (fun c h => ?_) (fun c h => ?_)
  · refine J_iconst hX (0 : Int32) dX10_see_24 ic_0 ?_
    exact J_ireturn hX dX10_see_25 h hF narrow_b0
  · refine J_aload_n hX dX10_see_8 rfl 0 rfl ?_
    refine J_getR hX dX10_see_9 fl_RX10_60 (ltn ltc_0 hn) lo_0 rfl (rt_0_8 _ _ _ _ _) ?_
    refine J_iload_n hX dX10_see_12 rfl 1 rfl ?_
    refine J_iload_n hX dX10_see_13 rfl 2 rfl ?_
    obtain ⟨r4, m3, h0, h⟩ := bd2_some h
    refine J_callVi (As := [.int x1, .int x2]) (st := []) hX dX10_see_14 cw_RX10_302 (by omega) (c_X6_addSeen hn p_isSt_54 h0) (ltn ltc_54 hn) lo_54 (by decide) rfl rfl rfl (Nat.le_of_ble_eq_true rfl) ?_
    clear h0
    refine J_if_eq hX 24 dX10_see_17 (by decide) h (fun c h => ?_) (fun c h => ?_)
    · refine J_iconst hX (0 : Int32) dX10_see_24 ic_0 ?_
      exact J_ireturn hX dX10_see_25 h hF narrow_b0
    · refine J_iconst hX (1 : Int32) dX10_see_20 ic_1 ?_
      refine J_goto hX 25 dX10_see_21 (by decide) ?_
      exact J_ireturn hX dX10_see_25 h hF narrow_b1
theorem c_X10_see {G : GG} {l : Launch} {ρ : Nat → Nat} {n : Nat} {x : Option Nat} (hn : 126 ≤ n) {t : Nat} {u : Nat} {w : Nat} {v : Nat} (ht : isTo t) (hu : isTo u) (hw : isWk w) (hv : isWk v) {x1 : Int32} {x2 : Int32} {m : Mm} {rE : Int32} {mE : Mm} (h : f_X10_see t u w v x1 x2 m = some (rE, mE)) : CT G l yX10_see cX10_see 3 (some .boolean) 1 0 0 ρ n (RT t u w v x) [.ref 0, .int x1, .int x2] m (some (.int rE)) (RT t u w v x) mE := ct_of_J (by decide) rfl (Nat.le_of_ble_eq_true rfl) (fun X hX e1 e2 e3 e4 hQ hr hl => t_X10_see hX (Nat.le_refl _) hn ht hu hw hv ⟨by rw [hQ, e3, e4], hr, hl⟩ h)
def f_X11_see (x1 : Int32) (x2 : Int32) (m : Mm) : Option (Int32 × Mm) := stI m 78 0 (0 : Int32) (fun m1 => bd2 (f_X11_isDatum x1 m1) (fun r3 m2 => (if r3 = 0 then some ((0 : Int32), m2) else (if (gI m2 114 (ix (0 : Int32))) = (8 : Int32) then some ((0 : Int32), m2) else gd (inb (gI m2 114 (ix (0 : Int32))) 24) (stI m2 115 (ix (gI m2 114 (ix (0 : Int32)))) x1 (fun m4 => gd (isB x2) (gd (inb (gI m4 114 (ix (0 : Int32))) 24) (stI m4 116 (ix (gI m4 114 (ix (0 : Int32)))) x2 (fun m5 => stI m5 114 (ix (0 : Int32)) ((gI m5 114 (ix (0 : Int32))) + (1 : Int32)) (fun m6 => some ((1 : Int32), m6)))))))))))
theorem t_X11_see {X : XX} {G : GG} {ρ : Nat → Nat} {n t u w v : Nat} {x : Option Nat} {d : Nat} (hX : Ok X G ρ cX11_see 3 RX11 d) (hd0 : 1 ≤ d) (hn : 126 ≤ n) {rE : Int32} {mE : Mm} (hF : Fin' X G ρ n (some .boolean) (some (.int rE)) (RT t u w v x) mE) {x1 : Int32} {x2 : Int32} {m : Mm} (h : f_X11_see x1 x2 m = some (rE, mE)) : J X G ρ n 3 0 [(0, .ref 78), (1, .int x1), (2, .int x2)] [] (RT t u w v x) m := by
  unfold f_X11_see at h
  refine J_aload_n hX dX11_see_0 rfl 0 rfl ?_
  refine J_iconst hX (0 : Int32) dX11_see_1 ic_0 ?_
  refine J_putI hX dX11_see_2 pl_RX11_152 (ltn ltc_78 hn) lo_78 rfl rfl rfl h (fun m1 h => ?_)
  refine J_aload_n hX dX11_see_5 rfl 0 rfl ?_
  refine J_iload_n hX dX11_see_6 rfl 1 rfl ?_
  obtain ⟨r3, m2, h0, h⟩ := bd2_some h
  refine J_callVi (As := [.int x1]) (st := []) hX dX11_see_7 cw_RX11_382 (by omega) (c_X11_isDatum hn  h0) (ltn ltc_78 hn) lo_78 (by decide) rfl rfl rfl (Nat.le_of_ble_eq_true rfl) ?_
  clear h0
  refine J_if_eq hX 24 dX11_see_10 (by decide) h (fun c h => ?_) (fun c h => ?_)
  · refine J_iconst hX (0 : Int32) dX11_see_24 ic_0 ?_
    exact J_ireturn hX dX11_see_25 h hF narrow_b0
  · refine J_aload_n hX dX11_see_13 rfl 0 rfl ?_
    refine J_getR hX dX11_see_14 fl_RX11_116 (ltn ltc_78 hn) lo_78 rfl (rt_78_47 _ _ _ _ _) ?_
    refine J_iconst hX (0 : Int32) dX11_see_17 ic_0 ?_
    refine J_iaload0 hX dX11_see_18 (ltn ltc_114 hn) lay_114 (by decide) ?_
    refine J_bipush hX (8 : Int32) dX11_see_19 (by decide) ?_
    refine J_icmp_ne hX 26 dX11_see_21 (by decide) h (fun c h => ?_) (fun c h => ?_)
    · refine J_iconst hX (0 : Int32) dX11_see_24 ic_0 ?_
      exact J_ireturn hX dX11_see_25 h hF narrow_b0
    · refine J_aload_n hX dX11_see_26 rfl 0 rfl ?_
      refine J_getR hX dX11_see_27 fl_RX11_119 (ltn ltc_78 hn) lo_78 rfl (rt_78_48 _ _ _ _ _) ?_
      refine J_aload_n hX dX11_see_30 rfl 0 rfl ?_
      refine J_getR hX dX11_see_31 fl_RX11_116 (ltn ltc_78 hn) lo_78 rfl (rt_78_47 _ _ _ _ _) ?_
      refine J_iconst hX (0 : Int32) dX11_see_34 ic_0 ?_
      refine J_iaload0 hX dX11_see_35 (ltn ltc_114 hn) lay_114 (by decide) ?_
      refine J_iload_n hX dX11_see_36 rfl 1 rfl ?_
      refine J_iastore hX dX11_see_37 (ltn ltc_115 hn) lay_115 h (fun m4 h => ?_)
      refine J_aload_n hX dX11_see_38 rfl 0 rfl ?_
      refine J_getR hX dX11_see_39 fl_RX11_122 (ltn ltc_78 hn) lo_78 rfl (rt_78_49 _ _ _ _ _) ?_
      refine J_aload_n hX dX11_see_42 rfl 0 rfl ?_
      refine J_getR hX dX11_see_43 fl_RX11_116 (ltn ltc_78 hn) lo_78 rfl (rt_78_47 _ _ _ _ _) ?_
      refine J_iconst hX (0 : Int32) dX11_see_46 ic_0 ?_
      refine J_iaload0 hX dX11_see_47 (ltn ltc_114 hn) lay_114 (by decide) ?_
      refine J_iload_n hX dX11_see_48 rfl 2 rfl ?_
      obtain ⟨gB, h⟩ := gd_some h
      refine J_bastore hX dX11_see_49 (ltn ltc_116 hn) lay_116 (vzB gB) h (fun m5 h => ?_)
      refine J_aload_n hX dX11_see_50 rfl 0 rfl ?_
      refine J_getR hX dX11_see_51 fl_RX11_116 (ltn ltc_78 hn) lo_78 rfl (rt_78_47 _ _ _ _ _) ?_
      refine J_iconst hX (0 : Int32) dX11_see_54 ic_0 ?_
      refine J_dup2 hX dX11_see_55 rfl rfl ?_
      refine J_iaload0 hX dX11_see_56 (ltn ltc_114 hn) lay_114 (by decide) ?_
      refine J_iconst hX (1 : Int32) dX11_see_57 ic_1 ?_
      refine J_iadd hX dX11_see_58 ?_
      refine J_iastore0 hX dX11_see_59 (ltn ltc_114 hn) lay_114 (by decide) h (fun m6 h => ?_)
      refine J_iconst hX (1 : Int32) dX11_see_60 ic_1 ?_
      exact J_ireturn hX dX11_see_61 h hF narrow_b1
theorem c_X11_see {G : GG} {l : Launch} {ρ : Nat → Nat} {n t u w v : Nat} {x : Option Nat} (hn : 126 ≤ n) {x1 : Int32} {x2 : Int32} {m : Mm} {rE : Int32} {mE : Mm} (h : f_X11_see x1 x2 m = some (rE, mE)) : CT G l yX11_see cX11_see 3 (some .boolean) 1 0 0 ρ n (RT t u w v x) [.ref 78, .int x1, .int x2] m (some (.int rE)) (RT t u w v x) mE := ct_of_J (by decide) rfl (Nat.le_of_ble_eq_true rfl) (fun X hX e1 e2 e3 e4 hQ hr hl => t_X11_see hX (Nat.le_refl _) hn ⟨by rw [hQ, e3, e4], hr, hl⟩ h)
def f_X10_who (t : Nat) (u : Nat) (w : Nat) (v : Nat) (m : Mm) : Option (Int32 × Mm) := bd2 (f_X5_suspects m) (fun r2 m1 => some (r2, m1))
theorem t_X10_who {X : XX} {G : GG} {ρ : Nat → Nat} {n : Nat} {x : Option Nat} {d : Nat} {t : Nat} {u : Nat} {w : Nat} {v : Nat} (hX : Ok X G ρ cX10_who 1 RX10 d) (hd0 : 5 ≤ d) (hn : 126 ≤ n) (ht : isTo t) (hu : isTo u) (hw : isWk w) (hv : isWk v) {rE : Int32} {mE : Mm} (hF : Fin' X G ρ n (some .int) (some (.int rE)) (RT t u w v x) mE) {m : Mm} (h : f_X10_who t u w v m = some (rE, mE)) : J X G ρ n 1 0 [(0, .ref 0)] [] (RT t u w v x) m := by
  unfold f_X10_who at h
  refine J_aload_n hX dX10_who_0 rfl 0 rfl ?_
  refine J_getR hX dX10_who_1 fl_RX10_80 (ltn ltc_0 hn) lo_0 rfl (rt_0_12 _ _ _ _ _) ?_
  obtain ⟨r2, m1, h0, h⟩ := bd2_some h
  refine J_callVi (As := []) (st := []) hX dX10_who_4 cw_RX10_306 (by omega) (c_X5_suspects hn  h0) (ltn ltc_76 hn) lo_76 (by decide) rfl rfl rfl (Nat.le_of_ble_eq_true rfl) ?_
  clear h0
  exact J_ireturn hX dX10_who_7 h hF rfl
theorem c_X10_who {G : GG} {l : Launch} {ρ : Nat → Nat} {n : Nat} {x : Option Nat} (hn : 126 ≤ n) {t : Nat} {u : Nat} {w : Nat} {v : Nat} (ht : isTo t) (hu : isTo u) (hw : isWk w) (hv : isWk v) {m : Mm} {rE : Int32} {mE : Mm} (h : f_X10_who t u w v m = some (rE, mE)) : CT G l yX10_who cX10_who 1 (some .int) 5 0 0 ρ n (RT t u w v x) [.ref 0] m (some (.int rE)) (RT t u w v x) mE := ct_of_J (by decide) rfl (Nat.le_of_ble_eq_true rfl) (fun X hX e1 e2 e3 e4 hQ hr hl => t_X10_who hX (Nat.le_refl _) hn ht hu hw hv ⟨by rw [hQ, e3, e4], hr, hl⟩ h)
def f_X10_ask (t : Nat) (u : Nat) (w : Nat) (v : Nat) (m : Mm) : Option (Int32 × Mm) := bd2 (f_X5_bestQuestion m) (fun r2 m1 => some (r2, m1))
theorem t_X10_ask {X : XX} {G : GG} {ρ : Nat → Nat} {n : Nat} {x : Option Nat} {d : Nat} {t : Nat} {u : Nat} {w : Nat} {v : Nat} (hX : Ok X G ρ cX10_ask 1 RX10 d) (hd0 : 6 ≤ d) (hn : 126 ≤ n) (ht : isTo t) (hu : isTo u) (hw : isWk w) (hv : isWk v) {rE : Int32} {mE : Mm} (hF : Fin' X G ρ n (some .int) (some (.int rE)) (RT t u w v x) mE) {m : Mm} (h : f_X10_ask t u w v m = some (rE, mE)) : J X G ρ n 1 0 [(0, .ref 0)] [] (RT t u w v x) m := by
  unfold f_X10_ask at h
  refine J_aload_n hX dX10_ask_0 rfl 0 rfl ?_
  refine J_getR hX dX10_ask_1 fl_RX10_80 (ltn ltc_0 hn) lo_0 rfl (rt_0_12 _ _ _ _ _) ?_
  obtain ⟨r2, m1, h0, h⟩ := bd2_some h
  refine J_callVi (As := []) (st := []) hX dX10_ask_4 cw_RX10_309 (by omega) (c_X5_bestQuestion hn  h0) (ltn ltc_76 hn) lo_76 (by decide) rfl rfl rfl (Nat.le_of_ble_eq_true rfl) ?_
  clear h0
  exact J_ireturn hX dX10_ask_7 h hF rfl
theorem c_X10_ask {G : GG} {l : Launch} {ρ : Nat → Nat} {n : Nat} {x : Option Nat} (hn : 126 ≤ n) {t : Nat} {u : Nat} {w : Nat} {v : Nat} (ht : isTo t) (hu : isTo u) (hw : isWk w) (hv : isWk v) {m : Mm} {rE : Int32} {mE : Mm} (h : f_X10_ask t u w v m = some (rE, mE)) : CT G l yX10_ask cX10_ask 1 (some .int) 6 0 0 ρ n (RT t u w v x) [.ref 0] m (some (.int rE)) (RT t u w v x) mE := ct_of_J (by decide) rfl (Nat.le_of_ble_eq_true rfl) (fun X hX e1 e2 e3 e4 hQ hr hl => t_X10_ask hX (Nat.le_refl _) hn ht hu hw hv ⟨by rw [hQ, e3, e4], hr, hl⟩ h)
def f_X11_ask_L40 (v1 : Int32) (v2 : Int32) (v3 : Int32) (v4 : Int32) (v5 : Int32) (K : Int32 → Mm → Option (Int32 × Mm)) : Nat → Int32 → Int32 → Mm → Option (Int32 × Mm)
  | 0, _, _, _ => none
  | k + 1, v6, v7, m => (if v7 < (gI m 80 (ix (0 : Int32))) then bd2 (f_X11_isIn v1 v7 m) (fun r7 m6 => (if r7 = 0 then f_X11_ask_L40 v1 v2 v3 v4 v5 K k (v6 + (0 : Int32)) (v7 + (1 : Int32)) m6 else gd (inb (((160 : Int32) * v7) + v5) 2080) ((if (gI m6 124 (ix (((160 : Int32) * v7) + v5))) = 0 then f_X11_ask_L40 v1 v2 v3 v4 v5 K k (v6 + (0 : Int32)) (v7 + (1 : Int32)) m6 else f_X11_ask_L40 v1 v2 v3 v4 v5 K k (v6 + (1 : Int32)) (v7 + (1 : Int32)) m6)))) else K v6 m)
theorem t_X11_ask_L40 {X : XX} {G : GG} {ρ : Nat → Nat} {n t u w v : Nat} {x : Option Nat} {d : Nat} (hX : Ok X G ρ cX11_ask 8 RX11 d) (hd0 : 5 ≤ d) (hn : 126 ≤ n) {rE : Int32} {mE : Mm} (hF : Fin' X G ρ n (some .int) (some (.int rE)) (RT t u w v x) mE) {v1 : Int32} {v2 : Int32} {v3 : Int32} {v4 : Int32} {v5 : Int32} {K : Int32 → Mm → Option (Int32 × Mm)} (hK : ∀ (w6 : Int32) (m : Mm), K w6 m = some (rE, mE) → J X G ρ n 8 93 [(0, .ref 78), (1, .int v1), (2, .int v2), (3, .int v3), (4, .int v4), (5, .int v5), (6, .int w6)] [] (RT t u w v x) m) : ∀ (k : Nat) (v6 : Int32) (v7 : Int32) (m : Mm), f_X11_ask_L40 v1 v2 v3 v4 v5 K k v6 v7 m = some (rE, mE) → J X G ρ n 8 40 [(0, .ref 78), (1, .int v1), (2, .int v2), (3, .int v3), (4, .int v4), (5, .int v5), (6, .int v6), (7, .int v7)] [] (RT t u w v x) m := by
  intro k
  induction k with
  | zero => intro _ _ _ h; rw [f_X11_ask_L40] at h; cases h
  | succ k ih =>
    intro v6 v7 m h
    rw [f_X11_ask_L40] at h
    refine J_iload hX dX11_ask_40 7 rfl ?_
    refine J_aload_n hX dX11_ask_42 rfl 0 rfl ?_
    refine J_getR hX dX11_ask_43 fl_RX11_13 (ltn ltc_78 hn) lo_78 rfl (rt_78_10 _ _ _ _ _) ?_
    refine J_iconst hX (0 : Int32) dX11_ask_46 ic_0 ?_
    refine J_iaload0 hX dX11_ask_47 (ltn ltc_80 hn) lay_80 (by decide) ?_
    refine J_icmp_ge hX 93 dX11_ask_48 (by decide) h (fun c h => ?_) (fun c h => ?_)
    · refine J_iload hX dX11_ask_51 6 rfl ?_
      refine J_iload_n hX dX11_ask_53 rfl 1 rfl ?_
      refine J_iload hX dX11_ask_54 7 rfl ?_
      obtain ⟨r7, m6, h0, h⟩ := bd2_some h
      refine J_callSi (As := [.int v1, .int v7]) (st := [.int v6]) hX dX11_ask_56 cw_RX11_273 (by omega) (c_X11_isIn hn  h0) rfl rfl (Nat.le_of_ble_eq_true rfl) ?_
      clear h0
      refine J_if_eq hX 83 dX11_ask_59 (by decide) h (fun c h => ?_) (fun c h => ?_)
      · refine J_iconst hX (0 : Int32) dX11_ask_83 ic_0 ?_
        refine J_iadd hX dX11_ask_84 ?_
        refine J_istore hX [(6, .int (v6 + (0 : Int32))), (0, .ref 78), (1, .int v1), (2, .int v2), (3, .int v3), (4, .int v4), (5, .int v5), (7, .int v7)] dX11_ask_85 (by decide) rfl ?_
        refine J_iinc hX (v7 + (1 : Int32)) [(7, .int (v7 + (1 : Int32))), (6, .int (v6 + (0 : Int32))), (0, .ref 78), (1, .int v1), (2, .int v2), (3, .int v3), (4, .int v4), (5, .int v5)] dX11_ask_87 7 rfl (congrArg (fun z => v7 + z) ic_1) (by decide) rfl ?_
        refine J_goto hX 40 dX11_ask_90 (by decide) ?_
        refine J_sub [(0, .ref 78), (1, .int v1), (2, .int v2), (3, .int v3), (4, .int v4), (5, .int v5), (6, .int (v6 + (0 : Int32))), (7, .int (v7 + (1 : Int32)))] [2, 3, 4, 5, 6, 7, 1, 0] rfl ?_
        exact ih (v6 + (0 : Int32)) (v7 + (1 : Int32)) m6 h
      · refine J_aload_n hX dX11_ask_62 rfl 0 rfl ?_
        refine J_getR hX dX11_ask_63 fl_RX11_146 (ltn ltc_78 hn) lo_78 rfl (rt_78_57 _ _ _ _ _) ?_
        refine J_sipush hX (160 : Int32) dX11_ask_66 (by decide) ?_
        refine J_iload hX dX11_ask_69 7 rfl ?_
        refine J_imul hX dX11_ask_71 ?_
        refine J_iload hX dX11_ask_72 5 rfl ?_
        refine J_iadd hX dX11_ask_74 ?_
        refine J_baload hX dX11_ask_75 (ltn ltc_124 hn) lay_124 h (fun h => ?_)
        refine J_if_eq hX 83 dX11_ask_76 (by decide) h (fun c h => ?_) (fun c h => ?_)
        · refine J_iconst hX (0 : Int32) dX11_ask_83 ic_0 ?_
          refine J_iadd hX dX11_ask_84 ?_
          refine J_istore hX [(6, .int (v6 + (0 : Int32))), (0, .ref 78), (1, .int v1), (2, .int v2), (3, .int v3), (4, .int v4), (5, .int v5), (7, .int v7)] dX11_ask_85 (by decide) rfl ?_
          refine J_iinc hX (v7 + (1 : Int32)) [(7, .int (v7 + (1 : Int32))), (6, .int (v6 + (0 : Int32))), (0, .ref 78), (1, .int v1), (2, .int v2), (3, .int v3), (4, .int v4), (5, .int v5)] dX11_ask_87 7 rfl (congrArg (fun z => v7 + z) ic_1) (by decide) rfl ?_
          refine J_goto hX 40 dX11_ask_90 (by decide) ?_
          refine J_sub [(0, .ref 78), (1, .int v1), (2, .int v2), (3, .int v3), (4, .int v4), (5, .int v5), (6, .int (v6 + (0 : Int32))), (7, .int (v7 + (1 : Int32)))] [2, 3, 4, 5, 6, 7, 1, 0] rfl ?_
          exact ih (v6 + (0 : Int32)) (v7 + (1 : Int32)) m6 h
        · refine J_iconst hX (1 : Int32) dX11_ask_79 ic_1 ?_
          refine J_goto hX 84 dX11_ask_80 (by decide) ?_
          refine J_iadd hX dX11_ask_84 ?_
          refine J_istore hX [(6, .int (v6 + (1 : Int32))), (0, .ref 78), (1, .int v1), (2, .int v2), (3, .int v3), (4, .int v4), (5, .int v5), (7, .int v7)] dX11_ask_85 (by decide) rfl ?_
          refine J_iinc hX (v7 + (1 : Int32)) [(7, .int (v7 + (1 : Int32))), (6, .int (v6 + (1 : Int32))), (0, .ref 78), (1, .int v1), (2, .int v2), (3, .int v3), (4, .int v4), (5, .int v5)] dX11_ask_87 7 rfl (congrArg (fun z => v7 + z) ic_1) (by decide) rfl ?_
          refine J_goto hX 40 dX11_ask_90 (by decide) ?_
          refine J_sub [(0, .ref 78), (1, .int v1), (2, .int v2), (3, .int v3), (4, .int v4), (5, .int v5), (6, .int (v6 + (1 : Int32))), (7, .int (v7 + (1 : Int32)))] [2, 3, 4, 5, 6, 7, 1, 0] rfl ?_
          exact ih (v6 + (1 : Int32)) (v7 + (1 : Int32)) m6 h
    · refine J_sub [(0, .ref 78), (1, .int v1), (2, .int v2), (3, .int v3), (4, .int v4), (5, .int v5), (6, .int v6)] [0, 1, 2, 3, 4, 5, 6] rfl ?_
      exact hK v6 m h
def f_X11_ask_L23 : Nat → Int32 → Int32 → Int32 → Int32 → Int32 →  Mm → Option (Int32 × Mm)
  | 0, _, _, _, _, _, _ => none
  | k + 1, v1, v2, v3, v4, v5, m => (if v5 < (gI m 108 (ix (0 : Int32))) then f_X11_ask_L40 v1 v2 v3 v4 v5 (fun w8 m9 => (if (imax w8 (v2 - w8)) < v3 then f_X11_ask_L23 k v1 v2 (imax w8 (v2 - w8)) v5 (v5 + (1 : Int32)) m9 else f_X11_ask_L23 k v1 v2 v3 v4 (v5 + (1 : Int32)) m9)) FU (0 : Int32) (0 : Int32) m else some (v4, m))
theorem t_X11_ask_L23 {X : XX} {G : GG} {ρ : Nat → Nat} {n t u w v : Nat} {x : Option Nat} {d : Nat} (hX : Ok X G ρ cX11_ask 8 RX11 d) (hd0 : 5 ≤ d) (hn : 126 ≤ n) {rE : Int32} {mE : Mm} (hF : Fin' X G ρ n (some .int) (some (.int rE)) (RT t u w v x) mE) : ∀ (k : Nat) (v1 : Int32) (v2 : Int32) (v3 : Int32) (v4 : Int32) (v5 : Int32) (m : Mm), f_X11_ask_L23 k v1 v2 v3 v4 v5 m = some (rE, mE) → J X G ρ n 8 23 [(0, .ref 78), (1, .int v1), (2, .int v2), (3, .int v3), (4, .int v4), (5, .int v5)] [] (RT t u w v x) m := by
  intro k
  induction k with
  | zero => intro _ _ _ _ _ _ h; rw [f_X11_ask_L23] at h; cases h
  | succ k ih =>
    intro v1 v2 v3 v4 v5 m h
    rw [f_X11_ask_L23] at h
    refine J_iload hX dX11_ask_23 5 rfl ?_
    refine J_aload_n hX dX11_ask_25 rfl 0 rfl ?_
    refine J_getR hX dX11_ask_26 fl_RX11_98 (ltn ltc_78 hn) lo_78 rfl (rt_78_41 _ _ _ _ _) ?_
    refine J_iconst hX (0 : Int32) dX11_ask_29 ic_0 ?_
    refine J_iaload0 hX dX11_ask_30 (ltn ltc_108 hn) lay_108 (by decide) ?_
    refine J_icmp_ge hX 126 dX11_ask_31 (by decide) h (fun c h => ?_) (fun c h => ?_)
    · refine J_iconst hX (0 : Int32) dX11_ask_34 ic_0 ?_
      refine J_istore hX [(6, .int (0 : Int32)), (0, .ref 78), (1, .int v1), (2, .int v2), (3, .int v3), (4, .int v4), (5, .int v5)] dX11_ask_35 (by decide) rfl ?_
      refine J_iconst hX (0 : Int32) dX11_ask_37 ic_0 ?_
      refine J_istore hX [(7, .int (0 : Int32)), (6, .int (0 : Int32)), (0, .ref 78), (1, .int v1), (2, .int v2), (3, .int v3), (4, .int v4), (5, .int v5)] dX11_ask_38 (by decide) rfl ?_
      refine J_sub [(0, .ref 78), (1, .int v1), (2, .int v2), (3, .int v3), (4, .int v4), (5, .int v5), (6, .int (0 : Int32)), (7, .int (0 : Int32))] [2, 3, 4, 5, 6, 7, 1, 0] rfl ?_
      refine t_X11_ask_L40 hX hd0 hn hF (fun w8 m9 h => ?_) FU (0 : Int32) (0 : Int32) m h
      refine J_iload hX dX11_ask_93 6 rfl ?_
      refine J_iload_n hX dX11_ask_95 rfl 2 rfl ?_
      refine J_iload hX dX11_ask_96 6 rfl ?_
      refine J_isub hX dX11_ask_98 ?_
      refine J_imax hX dX11_ask_99 (by omega) cm_RX11_434 (Nat.le_of_ble_eq_true rfl) ?_
      refine J_istore hX [(6, .int (imax w8 (v2 - w8))), (0, .ref 78), (1, .int v1), (2, .int v2), (3, .int v3), (4, .int v4), (5, .int v5)] dX11_ask_102 (by decide) rfl ?_
      refine J_iload hX dX11_ask_104 0 rfl ?_
      refine J_iload_n hX dX11_ask_106 rfl 4 rfl ?_
      refine J_icmp_lt hX 113 dX11_ask_107 (by decide) h (fun c h => ?_) (fun c h => ?_)
      · refine J_iload hX dX11_ask_113 0 rfl ?_
        refine J_istore_n hX [(3, .int (imax w8 (v2 - w8))), (6, .int (imax w8 (v2 - w8))), (0, .ref 78), (1, .int v1), (2, .int v2), (4, .int v4), (5, .int v5)] dX11_ask_115 rfl (by decide) rfl ?_
        refine J_iload hX dX11_ask_116 6 rfl ?_
        refine J_istore hX [(4, .int v5), (3, .int (imax w8 (v2 - w8))), (6, .int (imax w8 (v2 - w8))), (0, .ref 78), (1, .int v1), (2, .int v2), (5, .int v5)] dX11_ask_118 (by decide) rfl ?_
        refine J_iinc hX (v5 + (1 : Int32)) [(5, .int (v5 + (1 : Int32))), (4, .int v5), (3, .int (imax w8 (v2 - w8))), (6, .int (imax w8 (v2 - w8))), (0, .ref 78), (1, .int v1), (2, .int v2)] dX11_ask_120 6 rfl (congrArg (fun z => v5 + z) ic_1) (by decide) rfl ?_
        refine J_goto hX 23 dX11_ask_123 (by decide) ?_
        refine J_sub [(0, .ref 78), (1, .int v1), (2, .int v2), (3, .int (imax w8 (v2 - w8))), (4, .int v5), (5, .int (v5 + (1 : Int32)))] [4, 5, 6, 2, 1, 0] rfl ?_
        exact ih v1 v2 (imax w8 (v2 - w8)) v5 (v5 + (1 : Int32)) m9 h
      · refine J_goto hX 120 dX11_ask_110 (by decide) ?_
        refine J_iinc hX (v5 + (1 : Int32)) [(5, .int (v5 + (1 : Int32))), (6, .int (imax w8 (v2 - w8))), (0, .ref 78), (1, .int v1), (2, .int v2), (3, .int v3), (4, .int v4)] dX11_ask_120 6 rfl (congrArg (fun z => v5 + z) ic_1) (by decide) rfl ?_
        refine J_goto hX 23 dX11_ask_123 (by decide) ?_
        refine J_sub [(0, .ref 78), (1, .int v1), (2, .int v2), (3, .int v3), (4, .int v4), (5, .int (v5 + (1 : Int32)))] [2, 3, 4, 5, 6, 0] rfl ?_
        exact ih v1 v2 v3 v4 (v5 + (1 : Int32)) m9 h
    · refine J_iload hX dX11_ask_126 4 rfl ?_
      exact J_ireturn hX dX11_ask_128 h hF rfl
def f_X11_ask (m : Mm) : Option (Int32 × Mm) := stI m 78 0 (0 : Int32) (fun m1 => bd2 (f_X11_who m1) (fun r3 m2 => bd2 (f_X11_bits r3 m2) (fun r5 m4 => f_X11_ask_L23 FU r3 r5 r5 (-1 : Int32) (0 : Int32)  m4)))
theorem t_X11_ask {X : XX} {G : GG} {ρ : Nat → Nat} {n t u w v : Nat} {x : Option Nat} {d : Nat} (hX : Ok X G ρ cX11_ask 8 RX11 d) (hd0 : 5 ≤ d) (hn : 126 ≤ n) {rE : Int32} {mE : Mm} (hF : Fin' X G ρ n (some .int) (some (.int rE)) (RT t u w v x) mE) {m : Mm} (h : f_X11_ask m = some (rE, mE)) : J X G ρ n 8 0 [(0, .ref 78)] [] (RT t u w v x) m := by
  unfold f_X11_ask at h
  refine J_aload_n hX dX11_ask_0 rfl 0 rfl ?_
  refine J_iconst hX (0 : Int32) dX11_ask_1 ic_0 ?_
  refine J_putI hX dX11_ask_2 pl_RX11_152 (ltn ltc_78 hn) lo_78 rfl rfl rfl h (fun m1 h => ?_)
  refine J_aload_n hX dX11_ask_5 rfl 0 rfl ?_
  obtain ⟨r3, m2, h0, h⟩ := bd2_some h
  refine J_callVi (As := []) (st := []) hX dX11_ask_6 cw_RX11_478 (by omega) (c_X11_who hn  h0) (ltn ltc_78 hn) lo_78 (by decide) rfl rfl rfl (Nat.le_of_ble_eq_true rfl) ?_
  clear h0
  refine J_istore_n hX [(1, .int r3), (0, .ref 78)] dX11_ask_9 rfl (by decide) rfl ?_
  refine J_iload_n hX dX11_ask_10 rfl 0 rfl ?_
  obtain ⟨r5, m4, h0, h⟩ := bd2_some h
  refine J_callSi (As := [.int r3]) (st := []) hX dX11_ask_11 cw_RX11_481 (by omega) (c_X11_bits hn  h0) rfl rfl (Nat.le_of_ble_eq_true rfl) ?_
  clear h0
  refine J_istore_n hX [(2, .int r5), (1, .int r3), (0, .ref 78)] dX11_ask_14 rfl (by decide) rfl ?_
  refine J_iload_n hX dX11_ask_15 rfl 0 rfl ?_
  refine J_istore_n hX [(3, .int r5), (2, .int r5), (1, .int r3), (0, .ref 78)] dX11_ask_16 rfl (by decide) rfl ?_
  refine J_iconst hX (-1 : Int32) dX11_ask_17 ic_m1 ?_
  refine J_istore hX [(4, .int (-1 : Int32)), (3, .int r5), (2, .int r5), (1, .int r3), (0, .ref 78)] dX11_ask_18 (by decide) rfl ?_
  refine J_iconst hX (0 : Int32) dX11_ask_20 ic_0 ?_
  refine J_istore hX [(5, .int (0 : Int32)), (4, .int (-1 : Int32)), (3, .int r5), (2, .int r5), (1, .int r3), (0, .ref 78)] dX11_ask_21 (by decide) rfl ?_
  refine J_sub [(0, .ref 78), (1, .int r3), (2, .int r5), (3, .int r5), (4, .int (-1 : Int32)), (5, .int (0 : Int32))] [5, 4, 3, 2, 1, 0] rfl ?_
  exact t_X11_ask_L23 hX hd0 hn hF FU r3 r5 r5 (-1 : Int32) (0 : Int32)  m4 h
theorem c_X11_ask {G : GG} {l : Launch} {ρ : Nat → Nat} {n t u w v : Nat} {x : Option Nat} (hn : 126 ≤ n) {m : Mm} {rE : Int32} {mE : Mm} (h : f_X11_ask m = some (rE, mE)) : CT G l yX11_ask cX11_ask 8 (some .int) 5 0 0 ρ n (RT t u w v x) [.ref 78] m (some (.int rE)) (RT t u w v x) mE := ct_of_J (by decide) rfl (Nat.le_of_ble_eq_true rfl) (fun X hX e1 e2 e3 e4 hQ hr hl => t_X11_ask hX (Nat.le_refl _) hn ⟨by rw [hQ, e3, e4], hr, hl⟩ h)
def f_X11_loads_L116 : Nat → Int32 → Int32 → Int32 → Int32 → Int32 → Int32 →  Mm → Option (Int32 × Mm)
  | 0, _, _, _, _, _, _, _ => none
  | k + 1, v3, v5, v6, v7, v8, v9, m => (if v9 < (gI m 80 (ix (0 : Int32))) then gd (inb ((1 : Int32) + v9) 374) (gd (inb ((1 : Int32) + v9) 374) (f_X11_loads_L116 k v3 v5 v6 (imax v7 (gI m 117 (ix ((1 : Int32) + v9)))) (imin v8 (gI m 117 (ix ((1 : Int32) + v9)))) (v9 + (1 : Int32)) m)) else bd1 (f_X11_copies 118 117 (0 : Int32) (0 : Int32) m) (fun m16 => (if v3 = 0 then some (v5, m16) else (if v3 = (1 : Int32) then some (v6, m16) else some ((imax (0 : Int32) (v7 - v8)), m16)))))
theorem t_X11_loads_L116 {X : XX} {G : GG} {ρ : Nat → Nat} {n t u w v : Nat} {x : Option Nat} {d : Nat} (hX : Ok X G ρ cX11_loads 10 RX11 d) (hd0 : 5 ≤ d) (hn : 126 ≤ n) {rE : Int32} {mE : Mm} (hF : Fin' X G ρ n (some .int) (some (.int rE)) (RT t u w v x) mE) : ∀ (k : Nat) (v3 : Int32) (v5 : Int32) (v6 : Int32) (v7 : Int32) (v8 : Int32) (v9 : Int32) (m : Mm), f_X11_loads_L116 k v3 v5 v6 v7 v8 v9 m = some (rE, mE) → J X G ρ n 10 116 [(0, .ref 78), (3, .int v3), (5, .int v5), (6, .int v6), (7, .int v7), (8, .int v8), (9, .int v9)] [] (RT t u w v x) m := by
  intro k
  induction k with
  | zero => intro _ _ _ _ _ _ _ h; rw [f_X11_loads_L116] at h; cases h
  | succ k ih =>
    intro v3 v5 v6 v7 v8 v9 m h
    rw [f_X11_loads_L116] at h
    refine J_iload hX dX11_loads_116 6 rfl ?_
    refine J_aload_n hX dX11_loads_118 rfl 0 rfl ?_
    refine J_getR hX dX11_loads_119 fl_RX11_13 (ltn ltc_78 hn) lo_78 rfl (rt_78_10 _ _ _ _ _) ?_
    refine J_iconst hX (0 : Int32) dX11_loads_122 ic_0 ?_
    refine J_iaload0 hX dX11_loads_123 (ltn ltc_80 hn) lay_80 (by decide) ?_
    refine J_icmp_ge hX 165 dX11_loads_124 (by decide) h (fun c h => ?_) (fun c h => ?_)
    · refine J_iload hX dX11_loads_127 4 rfl ?_
      refine J_aload_n hX dX11_loads_129 rfl 0 rfl ?_
      refine J_getR hX dX11_loads_130 fl_RX11_125 (ltn ltc_78 hn) lo_78 rfl (rt_78_50 _ _ _ _ _) ?_
      refine J_iconst hX (1 : Int32) dX11_loads_133 ic_1 ?_
      refine J_iload hX dX11_loads_134 6 rfl ?_
      refine J_iadd hX dX11_loads_136 ?_
      refine J_iaload hX dX11_loads_137 (ltn ltc_117 hn) lay_117 h (fun h => ?_)
      refine J_imax hX dX11_loads_138 (by omega) cm_RX11_434 (Nat.le_of_ble_eq_true rfl) ?_
      refine J_istore hX [(7, .int (imax v7 (gI m 117 (ix ((1 : Int32) + v9))))), (0, .ref 78), (3, .int v3), (5, .int v5), (6, .int v6), (8, .int v8), (9, .int v9)] dX11_loads_141 (by decide) rfl ?_
      refine J_iload hX dX11_loads_143 5 rfl ?_
      refine J_aload_n hX dX11_loads_145 rfl 1 rfl ?_
      refine J_getR hX dX11_loads_146 fl_RX11_125 (ltn ltc_78 hn) lo_78 rfl (rt_78_50 _ _ _ _ _) ?_
      refine J_iconst hX (1 : Int32) dX11_loads_149 ic_1 ?_
      refine J_iload hX dX11_loads_150 6 rfl ?_
      refine J_iadd hX dX11_loads_152 ?_
      refine J_iaload hX dX11_loads_153 (ltn ltc_117 hn) lay_117 h (fun h => ?_)
      refine J_imin hX dX11_loads_154 (by omega) cm_RX11_439 (Nat.le_of_ble_eq_true rfl) ?_
      refine J_istore hX [(8, .int (imin v8 (gI m 117 (ix ((1 : Int32) + v9))))), (7, .int (imax v7 (gI m 117 (ix ((1 : Int32) + v9))))), (0, .ref 78), (3, .int v3), (5, .int v5), (6, .int v6), (9, .int v9)] dX11_loads_157 (by decide) rfl ?_
      refine J_iinc hX (v9 + (1 : Int32)) [(9, .int (v9 + (1 : Int32))), (8, .int (imin v8 (gI m 117 (ix ((1 : Int32) + v9))))), (7, .int (imax v7 (gI m 117 (ix ((1 : Int32) + v9))))), (0, .ref 78), (3, .int v3), (5, .int v5), (6, .int v6)] dX11_loads_159 6 rfl (congrArg (fun z => v9 + z) ic_1) (by decide) rfl ?_
      refine J_goto hX 116 dX11_loads_162 (by decide) ?_
      refine J_sub [(0, .ref 78), (3, .int v3), (5, .int v5), (6, .int v6), (7, .int (imax v7 (gI m 117 (ix ((1 : Int32) + v9))))), (8, .int (imin v8 (gI m 117 (ix ((1 : Int32) + v9))))), (9, .int (v9 + (1 : Int32)))] [3, 4, 5, 6, 2, 1, 0] rfl ?_
      exact ih v3 v5 v6 (imax v7 (gI m 117 (ix ((1 : Int32) + v9)))) (imin v8 (gI m 117 (ix ((1 : Int32) + v9)))) (v9 + (1 : Int32)) m h
    · refine J_aload_n hX dX11_loads_165 rfl 0 rfl ?_
      refine J_getR hX dX11_loads_166 fl_RX11_128 (ltn ltc_78 hn) lo_78 rfl (rt_78_51 _ _ _ _ _) ?_
      refine J_iconst hX (0 : Int32) dX11_loads_169 ic_0 ?_
      refine J_aload_n hX dX11_loads_170 rfl 0 rfl ?_
      refine J_getR hX dX11_loads_171 fl_RX11_125 (ltn ltc_78 hn) lo_78 rfl (rt_78_50 _ _ _ _ _) ?_
      refine J_iconst hX (0 : Int32) dX11_loads_174 ic_0 ?_
      obtain ⟨m16, h0, h⟩ := bd1_some h
      refine J_callSv (As := [.ref 118, .int (0 : Int32), .ref 117, .int (0 : Int32)]) (st := []) hX dX11_loads_175 cw_RX11_418 (by omega) (c_X11_copies hn p_isIa_118 p_isIa_117 h0) rfl rfl (Nat.le_of_ble_eq_true rfl) ?_
      clear h0
      refine J_iload_n hX dX11_loads_178 rfl 1 rfl ?_
      refine J_if_ne hX 187 dX11_loads_179 (by decide) h (fun c h => ?_) (fun c h => ?_)
      · refine J_iload hX dX11_loads_182 2 rfl ?_
        refine J_goto hX 206 dX11_loads_184 (by decide) ?_
        exact J_ireturn hX dX11_loads_206 h hF rfl
      · refine J_iload_n hX dX11_loads_187 rfl 1 rfl ?_
        refine J_iconst hX (1 : Int32) dX11_loads_188 ic_1 ?_
        refine J_icmp_ne hX 197 dX11_loads_189 (by decide) h (fun c h => ?_) (fun c h => ?_)
        · refine J_iload hX dX11_loads_192 3 rfl ?_
          refine J_goto hX 206 dX11_loads_194 (by decide) ?_
          exact J_ireturn hX dX11_loads_206 h hF rfl
        · refine J_iconst hX (0 : Int32) dX11_loads_197 ic_0 ?_
          refine J_iload hX dX11_loads_198 4 rfl ?_
          refine J_iload hX dX11_loads_200 5 rfl ?_
          refine J_isub hX dX11_loads_202 ?_
          refine J_imax hX dX11_loads_203 (by omega) cm_RX11_434 (Nat.le_of_ble_eq_true rfl) ?_
          exact J_ireturn hX dX11_loads_206 h hF rfl
def f_X11_loads_J90 (v3 : Int32) (v4 : Int32) (m : Mm) : Option (Int32 × Mm) := bd2 (f_X11_allLoads m) (fun r13 m12 => bd2 (f_X11_deadOnes m12) (fun r15 m14 => f_X11_loads_L116 FU v3 (r13 - v4) r15 (0 : Int32) (99999 : Int32) (0 : Int32)  m14))
theorem t_X11_loads_J90 {X : XX} {G : GG} {ρ : Nat → Nat} {n t u w v : Nat} {x : Option Nat} {d : Nat} (hX : Ok X G ρ cX11_loads 10 RX11 d) (hd0 : 5 ≤ d) (hn : 126 ≤ n) {rE : Int32} {mE : Mm} (hF : Fin' X G ρ n (some .int) (some (.int rE)) (RT t u w v x) mE) (v3 : Int32) (v4 : Int32) (m : Mm) (h : f_X11_loads_J90 v3 v4 m = some (rE, mE)) : J X G ρ n 10 90 [(0, .ref 78), (3, .int v3), (4, .int v4)] [] (RT t u w v x) m := by
  unfold f_X11_loads_J90 at h
  refine J_aload_n hX dX11_loads_90 rfl 0 rfl ?_
  obtain ⟨r13, m12, h0, h⟩ := bd2_some h
  refine J_callVi (As := []) (st := []) hX dX11_loads_91 cw_RX11_425 (by omega) (c_X11_allLoads hn  h0) (ltn ltc_78 hn) lo_78 (by decide) rfl rfl rfl (Nat.le_of_ble_eq_true rfl) ?_
  clear h0
  refine J_iload hX dX11_loads_94 2 rfl ?_
  refine J_isub hX dX11_loads_96 ?_
  refine J_istore hX [(5, .int (r13 - v4)), (0, .ref 78), (3, .int v3), (4, .int v4)] dX11_loads_97 (by decide) rfl ?_
  refine J_aload_n hX dX11_loads_99 rfl 1 rfl ?_
  obtain ⟨r15, m14, h0, h⟩ := bd2_some h
  refine J_callVi (As := []) (st := []) hX dX11_loads_100 cw_RX11_428 (by omega) (c_X11_deadOnes hn  h0) (ltn ltc_78 hn) lo_78 (by decide) rfl rfl rfl (Nat.le_of_ble_eq_true rfl) ?_
  clear h0
  refine J_istore hX [(6, .int r15), (5, .int (r13 - v4)), (0, .ref 78), (3, .int v3), (4, .int v4)] dX11_loads_103 (by decide) rfl ?_
  refine J_iconst hX (0 : Int32) dX11_loads_105 ic_0 ?_
  refine J_istore hX [(7, .int (0 : Int32)), (6, .int r15), (5, .int (r13 - v4)), (0, .ref 78), (3, .int v3), (4, .int v4)] dX11_loads_106 (by decide) rfl ?_
  refine J_ldc_w hX (99999 : Int32) dX11_loads_108 k_RX11_501 ?_
  refine J_istore hX [(8, .int (99999 : Int32)), (7, .int (0 : Int32)), (6, .int r15), (5, .int (r13 - v4)), (0, .ref 78), (3, .int v3), (4, .int v4)] dX11_loads_111 (by decide) rfl ?_
  refine J_iconst hX (0 : Int32) dX11_loads_113 ic_0 ?_
  refine J_istore hX [(9, .int (0 : Int32)), (8, .int (99999 : Int32)), (7, .int (0 : Int32)), (6, .int r15), (5, .int (r13 - v4)), (0, .ref 78), (3, .int v3), (4, .int v4)] dX11_loads_114 (by decide) rfl ?_
  refine J_sub [(0, .ref 78), (3, .int v3), (5, .int (r13 - v4)), (6, .int r15), (7, .int (0 : Int32)), (8, .int (99999 : Int32)), (9, .int (0 : Int32))] [5, 6, 4, 3, 2, 1, 0] rfl ?_
  exact t_X11_loads_L116 hX hd0 hn hF FU v3 (r13 - v4) r15 (0 : Int32) (99999 : Int32) (0 : Int32)  m14 h
def f_X11_loads_L65 : Nat → Int32 → Int32 → Int32 → Int32 →  Mm → Option (Int32 × Mm)
  | 0, _, _, _, _, _ => none
  | k + 1, v2, v3, v4, v5, m => (if v5 < v2 then (if 0 < (gI m 108 (ix (0 : Int32))) then bd1 (f_X11_lives m) (fun m17 => f_X11_loads_L65 k v2 v3 v4 (v5 + (1 : Int32)) m17) else f_X11_loads_J90 v3 v4  m) else f_X11_loads_J90 v3 v4  m)
theorem t_X11_loads_L65 {X : XX} {G : GG} {ρ : Nat → Nat} {n t u w v : Nat} {x : Option Nat} {d : Nat} (hX : Ok X G ρ cX11_loads 10 RX11 d) (hd0 : 5 ≤ d) (hn : 126 ≤ n) {rE : Int32} {mE : Mm} (hF : Fin' X G ρ n (some .int) (some (.int rE)) (RT t u w v x) mE) : ∀ (k : Nat) (v2 : Int32) (v3 : Int32) (v4 : Int32) (v5 : Int32) (m : Mm), f_X11_loads_L65 k v2 v3 v4 v5 m = some (rE, mE) → J X G ρ n 10 65 [(0, .ref 78), (2, .int v2), (3, .int v3), (4, .int v4), (5, .int v5)] [] (RT t u w v x) m := by
  intro k
  induction k with
  | zero => intro _ _ _ _ _ h; rw [f_X11_loads_L65] at h; cases h
  | succ k ih =>
    intro v2 v3 v4 v5 m h
    rw [f_X11_loads_L65] at h
    refine J_iload hX dX11_loads_65 4 rfl ?_
    refine J_iload_n hX dX11_loads_67 rfl 1 rfl ?_
    refine J_icmp_ge hX 90 dX11_loads_68 (by decide) h (fun c h => ?_) (fun c h => ?_)
    · refine J_aload_n hX dX11_loads_71 rfl 0 rfl ?_
      refine J_getR hX dX11_loads_72 fl_RX11_98 (ltn ltc_78 hn) lo_78 rfl (rt_78_41 _ _ _ _ _) ?_
      refine J_iconst hX (0 : Int32) dX11_loads_75 ic_0 ?_
      refine J_iaload0 hX dX11_loads_76 (ltn ltc_108 hn) lay_108 (by decide) ?_
      refine J_if_le hX 90 dX11_loads_77 (by decide) h (fun c h => ?_) (fun c h => ?_)
      · refine J_aload_n hX dX11_loads_80 rfl 0 rfl ?_
        obtain ⟨m17, h0, h⟩ := bd1_some h
        refine J_callVv (As := []) (st := []) hX dX11_loads_81 cw_RX11_498 (by omega) (c_X11_lives hn  h0) (ltn ltc_78 hn) lo_78 (by decide) rfl rfl rfl (Nat.le_of_ble_eq_true rfl) ?_
        clear h0
        refine J_iinc hX (v5 + (1 : Int32)) [(5, .int (v5 + (1 : Int32))), (0, .ref 78), (2, .int v2), (3, .int v3), (4, .int v4)] dX11_loads_84 4 rfl (congrArg (fun z => v5 + z) ic_1) (by decide) rfl ?_
        refine J_goto hX 65 dX11_loads_87 (by decide) ?_
        refine J_sub [(0, .ref 78), (2, .int v2), (3, .int v3), (4, .int v4), (5, .int (v5 + (1 : Int32)))] [1, 2, 3, 4, 0] rfl ?_
        exact ih v2 v3 v4 (v5 + (1 : Int32)) m17 h
      · refine J_sub [(0, .ref 78), (3, .int v3), (4, .int v4)] [0, 2, 3] rfl ?_
        exact t_X11_loads_J90 hX hd0 hn hF v3 v4  m h
    · refine J_sub [(0, .ref 78), (3, .int v3), (4, .int v4)] [0, 2, 3] rfl ?_
      exact t_X11_loads_J90 hX hd0 hn hF v3 v4  m h
def f_X11_loads (x1 : Int32) (x2 : Int32) (x3 : Int32) (m : Mm) : Option (Int32 × Mm) := stI m 78 0 (0 : Int32) (fun m1 => bd2 (f_X11_within x1 (0 : Int32) (9999 : Int32) m1) (fun r3 m2 => (if r3 = 0 then some ((-1 : Int32), m2) else bd2 (f_X11_within x2 (1 : Int32) (99 : Int32) m2) (fun r5 m4 => (if r5 = 0 then some ((-1 : Int32), m4) else bd2 (f_X11_within x3 (0 : Int32) (2 : Int32) m4) (fun r7 m6 => (if r7 = 0 then some ((-1 : Int32), m6) else stL m6 78 58 x1.toInt64 (fun m8 => bd1 (f_X11_copies 117 118 (0 : Int32) (0 : Int32) m8) (fun m9 => bd2 (f_X11_allLoads m9) (fun r11 m10 => f_X11_loads_L65 FU x2 x3 r11 (0 : Int32)  m10))))))))))
theorem t_X11_loads {X : XX} {G : GG} {ρ : Nat → Nat} {n t u w v : Nat} {x : Option Nat} {d : Nat} (hX : Ok X G ρ cX11_loads 10 RX11 d) (hd0 : 5 ≤ d) (hn : 126 ≤ n) {rE : Int32} {mE : Mm} (hF : Fin' X G ρ n (some .int) (some (.int rE)) (RT t u w v x) mE) {x1 : Int32} {x2 : Int32} {x3 : Int32} {m : Mm} (h : f_X11_loads x1 x2 x3 m = some (rE, mE)) : J X G ρ n 10 0 [(0, .ref 78), (1, .int x1), (2, .int x2), (3, .int x3)] [] (RT t u w v x) m := by
  unfold f_X11_loads at h
  refine J_aload_n hX dX11_loads_0 rfl 0 rfl ?_
  refine J_iconst hX (0 : Int32) dX11_loads_1 ic_0 ?_
  refine J_putI hX dX11_loads_2 pl_RX11_152 (ltn ltc_78 hn) lo_78 rfl rfl rfl h (fun m1 h => ?_)
  refine J_iload_n hX dX11_loads_5 rfl 1 rfl ?_
  refine J_iconst hX (0 : Int32) dX11_loads_6 ic_0 ?_
  refine J_sipush hX (9999 : Int32) dX11_loads_7 (by decide) ?_
  obtain ⟨r3, m2, h0, h⟩ := bd2_some h
  refine J_callSi (As := [.int x1, .int (0 : Int32), .int (9999 : Int32)]) (st := []) hX dX11_loads_10 cw_RX11_239 (by omega) (c_X11_within hn  h0) rfl rfl (Nat.le_of_ble_eq_true rfl) ?_
  clear h0
  refine J_if_eq hX 35 dX11_loads_13 (by decide) h (fun c h => ?_) (fun c h => ?_)
  · refine J_iconst hX (-1 : Int32) dX11_loads_35 ic_m1 ?_
    exact J_ireturn hX dX11_loads_36 h hF rfl
  · refine J_iload_n hX dX11_loads_16 rfl 2 rfl ?_
    refine J_iconst hX (1 : Int32) dX11_loads_17 ic_1 ?_
    refine J_bipush hX (99 : Int32) dX11_loads_18 (by decide) ?_
    obtain ⟨r5, m4, h0, h⟩ := bd2_some h
    refine J_callSi (As := [.int x2, .int (1 : Int32), .int (99 : Int32)]) (st := []) hX dX11_loads_20 cw_RX11_239 (by omega) (c_X11_within hn  h0) rfl rfl (Nat.le_of_ble_eq_true rfl) ?_
    clear h0
    refine J_if_eq hX 35 dX11_loads_23 (by decide) h (fun c h => ?_) (fun c h => ?_)
    · refine J_iconst hX (-1 : Int32) dX11_loads_35 ic_m1 ?_
      exact J_ireturn hX dX11_loads_36 h hF rfl
    · refine J_iload_n hX dX11_loads_26 rfl 3 rfl ?_
      refine J_iconst hX (0 : Int32) dX11_loads_27 ic_0 ?_
      refine J_iconst hX (2 : Int32) dX11_loads_28 ic_2 ?_
      obtain ⟨r7, m6, h0, h⟩ := bd2_some h
      refine J_callSi (As := [.int x3, .int (0 : Int32), .int (2 : Int32)]) (st := []) hX dX11_loads_29 cw_RX11_239 (by omega) (c_X11_within hn  h0) rfl rfl (Nat.le_of_ble_eq_true rfl) ?_
      clear h0
      refine J_if_ne hX 37 dX11_loads_32 (by decide) h (fun c h => ?_) (fun c h => ?_)
      · refine J_iconst hX (-1 : Int32) dX11_loads_35 ic_m1 ?_
        exact J_ireturn hX dX11_loads_36 h hF rfl
      · refine J_aload_n hX dX11_loads_37 rfl 0 rfl ?_
        refine J_iload_n hX dX11_loads_38 rfl 1 rfl ?_
        refine J_i2l hX dX11_loads_39 ?_
        refine J_putL hX dX11_loads_40 pl_RX11_484 (ltn ltc_78 hn) lo_78 rfl h (fun m8 h => ?_)
        refine J_aload_n hX dX11_loads_43 rfl 0 rfl ?_
        refine J_getR hX dX11_loads_44 fl_RX11_125 (ltn ltc_78 hn) lo_78 rfl (rt_78_50 _ _ _ _ _) ?_
        refine J_iconst hX (0 : Int32) dX11_loads_47 ic_0 ?_
        refine J_aload_n hX dX11_loads_48 rfl 0 rfl ?_
        refine J_getR hX dX11_loads_49 fl_RX11_128 (ltn ltc_78 hn) lo_78 rfl (rt_78_51 _ _ _ _ _) ?_
        refine J_iconst hX (0 : Int32) dX11_loads_52 ic_0 ?_
        obtain ⟨m9, h0, h⟩ := bd1_some h
        refine J_callSv (As := [.ref 117, .int (0 : Int32), .ref 118, .int (0 : Int32)]) (st := []) hX dX11_loads_53 cw_RX11_418 (by omega) (c_X11_copies hn p_isIa_117 p_isIa_118 h0) rfl rfl (Nat.le_of_ble_eq_true rfl) ?_
        clear h0
        refine J_aload_n hX dX11_loads_56 rfl 0 rfl ?_
        obtain ⟨r11, m10, h0, h⟩ := bd2_some h
        refine J_callVi (As := []) (st := []) hX dX11_loads_57 cw_RX11_425 (by omega) (c_X11_allLoads hn  h0) (ltn ltc_78 hn) lo_78 (by decide) rfl rfl rfl (Nat.le_of_ble_eq_true rfl) ?_
        clear h0
        refine J_istore hX [(4, .int r11), (0, .ref 78), (1, .int x1), (2, .int x2), (3, .int x3)] dX11_loads_60 (by decide) rfl ?_
        refine J_iconst hX (0 : Int32) dX11_loads_62 ic_0 ?_
        refine J_istore hX [(5, .int (0 : Int32)), (4, .int r11), (0, .ref 78), (1, .int x1), (2, .int x2), (3, .int x3)] dX11_loads_63 (by decide) rfl ?_
        refine J_sub [(0, .ref 78), (2, .int x2), (3, .int x3), (4, .int r11), (5, .int (0 : Int32))] [2, 4, 5, 1, 0] rfl ?_
        exact t_X11_loads_L65 hX hd0 hn hF FU x2 x3 r11 (0 : Int32)  m10 h
theorem c_X11_loads {G : GG} {l : Launch} {ρ : Nat → Nat} {n t u w v : Nat} {x : Option Nat} (hn : 126 ≤ n) {x1 : Int32} {x2 : Int32} {x3 : Int32} {m : Mm} {rE : Int32} {mE : Mm} (h : f_X11_loads x1 x2 x3 m = some (rE, mE)) : CT G l yX11_loads cX11_loads 10 (some .int) 5 0 0 ρ n (RT t u w v x) [.ref 78, .int x1, .int x2, .int x3] m (some (.int rE)) (RT t u w v x) mE := ct_of_J (by decide) rfl (Nat.le_of_ble_eq_true rfl) (fun X hX e1 e2 e3 e4 hQ hr hl => t_X11_loads hX (Nat.le_refl _) hn ⟨by rw [hQ, e3, e4], hr, hl⟩ h)
def f_X10_mark_J24 (t : Nat) (u : Nat) (w : Nat) (v : Nat) (v1 : Int32) (v2 : Int32) (m : Mm) : Option (Int32 × Mm) := (if v2 = 0 then (if v1 = (0 : Int32) then bd1 (f_X6_copy 65 54 m) (fun m1 => gd (inb v1 2) (stI m1 75 (ix v1) (1 : Int32) (fun m2 => some ((1 : Int32), m2)))) else (if v1 = (1 : Int32) then bd1 (f_X6_copy 70 54 m) (fun m3 => gd (inb v1 2) (stI m3 75 (ix v1) (1 : Int32) (fun m4 => some ((1 : Int32), m4)))) else none)) else (if v1 = (0 : Int32) then bd1 (f_X6_copy 54 65 m) (fun m5 => some ((1 : Int32), m5)) else (if v1 = (1 : Int32) then bd1 (f_X6_copy 54 70 m) (fun m6 => some ((1 : Int32), m6)) else none)))
theorem t_X10_mark_J24 {X : XX} {G : GG} {ρ : Nat → Nat} {n : Nat} {x : Option Nat} {d : Nat} {t : Nat} {u : Nat} {w : Nat} {v : Nat} (hX : Ok X G ρ cX10_mark 3 RX10 d) (hd0 : 2 ≤ d) (hn : 126 ≤ n) (ht : isTo t) (hu : isTo u) (hw : isWk w) (hv : isWk v) {rE : Int32} {mE : Mm} (hF : Fin' X G ρ n (some .boolean) (some (.int rE)) (RT t u w v x) mE) (v1 : Int32) (v2 : Int32) (m : Mm) (h : f_X10_mark_J24 t u w v v1 v2 m = some (rE, mE)) : J X G ρ n 3 24 [(0, .ref 0), (1, .int v1), (2, .int v2)] [] (RT t u w v x) m := by
  unfold f_X10_mark_J24 at h
  refine J_iload_n hX dX10_mark_24 rfl 2 rfl ?_
  refine J_if_eq hX 44 dX10_mark_25 (by decide) h (fun c h => ?_) (fun c h => ?_)
  · refine J_aload_n hX dX10_mark_44 rfl 0 rfl ?_
    refine J_getR hX dX10_mark_45 fl_RX10_67 (ltn ltc_0 hn) lo_0 rfl (rt_0_10 _ _ _ _ _) ?_
    refine J_iload_n hX dX10_mark_48 rfl 1 rfl ?_
    refine J_split h (fun c h => ?_) (fun c h => ?_)
    · refine J_aaload0 hX dX10_mark_49 (ltn ltc_64 hn) lay_64 (by rw [c]; decide) (by rw [c]; exact rt_64_0 _ _ _ _ _) ?_
      refine J_aload_n hX dX10_mark_50 rfl 0 rfl ?_
      refine J_getR hX dX10_mark_51 fl_RX10_60 (ltn ltc_0 hn) lo_0 rfl (rt_0_8 _ _ _ _ _) ?_
      obtain ⟨m1, h0, h⟩ := bd1_some h
      refine J_callVv (As := [.ref 54]) (st := []) hX dX10_mark_54 cw_RX10_312 (by omega) (c_X6_copy hn p_isSt_65 p_isSt_54 h0) (ltn ltc_65 hn) lo_65 (by decide) rfl rfl rfl (Nat.le_of_ble_eq_true rfl) ?_
      clear h0
      refine J_aload_n hX dX10_mark_57 rfl 0 rfl ?_
      refine J_getR hX dX10_mark_58 fl_RX10_71 (ltn ltc_0 hn) lo_0 rfl (rt_0_11 _ _ _ _ _) ?_
      refine J_iload_n hX dX10_mark_61 rfl 1 rfl ?_
      refine J_iconst hX (1 : Int32) dX10_mark_62 ic_1 ?_
      refine J_bastore hX dX10_mark_63 (ltn ltc_75 hn) lay_75 vz1 h (fun m2 h => ?_)
      refine J_iconst hX (1 : Int32) dX10_mark_64 ic_1 ?_
      exact J_ireturn hX dX10_mark_65 h hF narrow_b1
    · refine J_split h (fun c h => ?_) (fun c h => ?_)
      · refine J_aaload0 hX dX10_mark_49 (ltn ltc_64 hn) lay_64 (by rw [c]; decide) (by rw [c]; exact rt_64_1 _ _ _ _ _) ?_
        refine J_aload_n hX dX10_mark_50 rfl 0 rfl ?_
        refine J_getR hX dX10_mark_51 fl_RX10_60 (ltn ltc_0 hn) lo_0 rfl (rt_0_8 _ _ _ _ _) ?_
        obtain ⟨m3, h0, h⟩ := bd1_some h
        refine J_callVv (As := [.ref 54]) (st := []) hX dX10_mark_54 cw_RX10_312 (by omega) (c_X6_copy hn p_isSt_70 p_isSt_54 h0) (ltn ltc_70 hn) lo_70 (by decide) rfl rfl rfl (Nat.le_of_ble_eq_true rfl) ?_
        clear h0
        refine J_aload_n hX dX10_mark_57 rfl 0 rfl ?_
        refine J_getR hX dX10_mark_58 fl_RX10_71 (ltn ltc_0 hn) lo_0 rfl (rt_0_11 _ _ _ _ _) ?_
        refine J_iload_n hX dX10_mark_61 rfl 1 rfl ?_
        refine J_iconst hX (1 : Int32) dX10_mark_62 ic_1 ?_
        refine J_bastore hX dX10_mark_63 (ltn ltc_75 hn) lay_75 vz1 h (fun m4 h => ?_)
        refine J_iconst hX (1 : Int32) dX10_mark_64 ic_1 ?_
        exact J_ireturn hX dX10_mark_65 h hF narrow_b1
      · cases h
  · refine J_aload_n hX dX10_mark_28 rfl 0 rfl ?_
    refine J_getR hX dX10_mark_29 fl_RX10_60 (ltn ltc_0 hn) lo_0 rfl (rt_0_8 _ _ _ _ _) ?_
    refine J_aload_n hX dX10_mark_32 rfl 0 rfl ?_
    refine J_getR hX dX10_mark_33 fl_RX10_67 (ltn ltc_0 hn) lo_0 rfl (rt_0_10 _ _ _ _ _) ?_
    refine J_iload_n hX dX10_mark_36 rfl 1 rfl ?_
    refine J_split h (fun c h => ?_) (fun c h => ?_)
    · refine J_aaload0 hX dX10_mark_37 (ltn ltc_64 hn) lay_64 (by rw [c]; decide) (by rw [c]; exact rt_64_0 _ _ _ _ _) ?_
      obtain ⟨m5, h0, h⟩ := bd1_some h
      refine J_callVv (As := [.ref 65]) (st := []) hX dX10_mark_38 cw_RX10_312 (by omega) (c_X6_copy hn p_isSt_54 p_isSt_65 h0) (ltn ltc_54 hn) lo_54 (by decide) rfl rfl rfl (Nat.le_of_ble_eq_true rfl) ?_
      clear h0
      refine J_goto hX 64 dX10_mark_41 (by decide) ?_
      refine J_iconst hX (1 : Int32) dX10_mark_64 ic_1 ?_
      exact J_ireturn hX dX10_mark_65 h hF narrow_b1
    · refine J_split h (fun c h => ?_) (fun c h => ?_)
      · refine J_aaload0 hX dX10_mark_37 (ltn ltc_64 hn) lay_64 (by rw [c]; decide) (by rw [c]; exact rt_64_1 _ _ _ _ _) ?_
        obtain ⟨m6, h0, h⟩ := bd1_some h
        refine J_callVv (As := [.ref 70]) (st := []) hX dX10_mark_38 cw_RX10_312 (by omega) (c_X6_copy hn p_isSt_54 p_isSt_70 h0) (ltn ltc_54 hn) lo_54 (by decide) rfl rfl rfl (Nat.le_of_ble_eq_true rfl) ?_
        clear h0
        refine J_goto hX 64 dX10_mark_41 (by decide) ?_
        refine J_iconst hX (1 : Int32) dX10_mark_64 ic_1 ?_
        exact J_ireturn hX dX10_mark_65 h hF narrow_b1
      · cases h
def f_X10_mark (t : Nat) (u : Nat) (w : Nat) (v : Nat) (x1 : Int32) (x2 : Int32) (m : Mm) : Option (Int32 × Mm) := (if x1 < 0 then some ((0 : Int32), m) else (if x1 < (2 : Int32) then (if x2 = 0 then f_X10_mark_J24 t u w v x1 x2  m else gd (inb x1 2) ((if (gI m 75 (ix x1)) = 0 then some ((0 : Int32), m) else f_X10_mark_J24 t u w v x1 x2  m))) else some ((0 : Int32), m)))
theorem t_X10_mark {X : XX} {G : GG} {ρ : Nat → Nat} {n : Nat} {x : Option Nat} {d : Nat} {t : Nat} {u : Nat} {w : Nat} {v : Nat} (hX : Ok X G ρ cX10_mark 3 RX10 d) (hd0 : 2 ≤ d) (hn : 126 ≤ n) (ht : isTo t) (hu : isTo u) (hw : isWk w) (hv : isWk v) {rE : Int32} {mE : Mm} (hF : Fin' X G ρ n (some .boolean) (some (.int rE)) (RT t u w v x) mE) {x1 : Int32} {x2 : Int32} {m : Mm} (h : f_X10_mark t u w v x1 x2 m = some (rE, mE)) : J X G ρ n 3 0 [(0, .ref 0), (1, .int x1), (2, .int x2)] [] (RT t u w v x) m := by
  unfold f_X10_mark at h
  refine J_iload_n hX dX10_mark_0 rfl 1 rfl ?_
  refine J_if_lt hX 22 dX10_mark_1 (by decide) h (fun c h => ?_) (fun c h => ?_)
  · refine J_iconst hX (0 : Int32) dX10_mark_22 ic_0 ?_
    exact J_ireturn hX dX10_mark_23 h hF narrow_b0
  · refine J_iload_n hX dX10_mark_4 rfl 1 rfl ?_
    refine J_iconst hX (2 : Int32) dX10_mark_5 ic_2 ?_
    refine J_icmp_ge hX 22 dX10_mark_6 (by decide) h (fun c h => ?_) (fun c h => ?_)
    · refine J_iload_n hX dX10_mark_9 rfl 2 rfl ?_
      refine J_if_eq hX 24 dX10_mark_10 (by decide) h (fun c h => ?_) (fun c h => ?_)
      · exact t_X10_mark_J24 hX hd0 hn ht hu hw hv hF x1 x2  m h
      · refine J_aload_n hX dX10_mark_13 rfl 0 rfl ?_
        refine J_getR hX dX10_mark_14 fl_RX10_71 (ltn ltc_0 hn) lo_0 rfl (rt_0_11 _ _ _ _ _) ?_
        refine J_iload_n hX dX10_mark_17 rfl 1 rfl ?_
        refine J_baload hX dX10_mark_18 (ltn ltc_75 hn) lay_75 h (fun h => ?_)
        refine J_if_ne hX 24 dX10_mark_19 (by decide) h (fun c h => ?_) (fun c h => ?_)
        · refine J_iconst hX (0 : Int32) dX10_mark_22 ic_0 ?_
          exact J_ireturn hX dX10_mark_23 h hF narrow_b0
        · exact t_X10_mark_J24 hX hd0 hn ht hu hw hv hF x1 x2  m h
    · refine J_iconst hX (0 : Int32) dX10_mark_22 ic_0 ?_
      exact J_ireturn hX dX10_mark_23 h hF narrow_b0
theorem c_X10_mark {G : GG} {l : Launch} {ρ : Nat → Nat} {n : Nat} {x : Option Nat} (hn : 126 ≤ n) {t : Nat} {u : Nat} {w : Nat} {v : Nat} (ht : isTo t) (hu : isTo u) (hw : isWk w) (hv : isWk v) {x1 : Int32} {x2 : Int32} {m : Mm} {rE : Int32} {mE : Mm} (h : f_X10_mark t u w v x1 x2 m = some (rE, mE)) : CT G l yX10_mark cX10_mark 3 (some .boolean) 2 0 0 ρ n (RT t u w v x) [.ref 0, .int x1, .int x2] m (some (.int rE)) (RT t u w v x) mE := ct_of_J (by decide) rfl (Nat.le_of_ble_eq_true rfl) (fun X hX e1 e2 e3 e4 hQ hr hl => t_X10_mark hX (Nat.le_refl _) hn ht hu hw hv ⟨by rw [hQ, e3, e4], hr, hl⟩ h)
def f_X11_laysSeen_L14 : Nat → Int32 → Int32 → Int32 →  Mm → Option (Mm)
  | 0, _, _, _, _ => none
  | k + 1, v1, v2, v3, m => (if v3 < (8 : Int32) then gd (inb (((8 : Int32) * v1) + v3) 24) (gd (inb (((8 : Int32) * v2) + v3) 24) (stI m 115 (ix (((8 : Int32) * v2) + v3)) (gI m 115 (ix (((8 : Int32) * v1) + v3))) (fun m2 => gd (inb (((8 : Int32) * v1) + v3) 24) (gd (isB (gI m2 116 (ix (((8 : Int32) * v1) + v3)))) (gd (inb (((8 : Int32) * v2) + v3) 24) (stI m2 116 (ix (((8 : Int32) * v2) + v3)) (gI m2 116 (ix (((8 : Int32) * v1) + v3))) (fun m3 => f_X11_laysSeen_L14 k v1 v2 (v3 + (1 : Int32)) m3))))))) else some m)
theorem t_X11_laysSeen_L14 {X : XX} {G : GG} {ρ : Nat → Nat} {n t u w v : Nat} {x : Option Nat} {d : Nat} (hX : Ok X G ρ cX11_laysSeen 4 RX11 d) (hd0 : 0 ≤ d) (hn : 126 ≤ n) {mE : Mm} (hF : Fin' X G ρ n none none (RT t u w v x) mE) : ∀ (k : Nat) (v1 : Int32) (v2 : Int32) (v3 : Int32) (m : Mm), f_X11_laysSeen_L14 k v1 v2 v3 m = some mE → J X G ρ n 4 14 [(0, .ref 78), (1, .int v1), (2, .int v2), (3, .int v3)] [] (RT t u w v x) m := by
  intro k
  induction k with
  | zero => intro _ _ _ _ h; rw [f_X11_laysSeen_L14] at h; cases h
  | succ k ih =>
    intro v1 v2 v3 m h
    rw [f_X11_laysSeen_L14] at h
    refine J_iload_n hX dX11_laysSeen_14 rfl 3 rfl ?_
    refine J_bipush hX (8 : Int32) dX11_laysSeen_15 (by decide) ?_
    refine J_icmp_ge hX 70 dX11_laysSeen_17 (by decide) h (fun c h => ?_) (fun c h => ?_)
    · refine J_aload_n hX dX11_laysSeen_20 rfl 0 rfl ?_
      refine J_getR hX dX11_laysSeen_21 fl_RX11_119 (ltn ltc_78 hn) lo_78 rfl (rt_78_48 _ _ _ _ _) ?_
      refine J_bipush hX (8 : Int32) dX11_laysSeen_24 (by decide) ?_
      refine J_iload_n hX dX11_laysSeen_26 rfl 2 rfl ?_
      refine J_imul hX dX11_laysSeen_27 ?_
      refine J_iload_n hX dX11_laysSeen_28 rfl 3 rfl ?_
      refine J_iadd hX dX11_laysSeen_29 ?_
      refine J_aload_n hX dX11_laysSeen_30 rfl 0 rfl ?_
      refine J_getR hX dX11_laysSeen_31 fl_RX11_119 (ltn ltc_78 hn) lo_78 rfl (rt_78_48 _ _ _ _ _) ?_
      refine J_bipush hX (8 : Int32) dX11_laysSeen_34 (by decide) ?_
      refine J_iload_n hX dX11_laysSeen_36 rfl 1 rfl ?_
      refine J_imul hX dX11_laysSeen_37 ?_
      refine J_iload_n hX dX11_laysSeen_38 rfl 3 rfl ?_
      refine J_iadd hX dX11_laysSeen_39 ?_
      refine J_iaload hX dX11_laysSeen_40 (ltn ltc_115 hn) lay_115 h (fun h => ?_)
      refine J_iastore hX dX11_laysSeen_41 (ltn ltc_115 hn) lay_115 h (fun m2 h => ?_)
      refine J_aload_n hX dX11_laysSeen_42 rfl 0 rfl ?_
      refine J_getR hX dX11_laysSeen_43 fl_RX11_122 (ltn ltc_78 hn) lo_78 rfl (rt_78_49 _ _ _ _ _) ?_
      refine J_bipush hX (8 : Int32) dX11_laysSeen_46 (by decide) ?_
      refine J_iload_n hX dX11_laysSeen_48 rfl 2 rfl ?_
      refine J_imul hX dX11_laysSeen_49 ?_
      refine J_iload_n hX dX11_laysSeen_50 rfl 3 rfl ?_
      refine J_iadd hX dX11_laysSeen_51 ?_
      refine J_aload_n hX dX11_laysSeen_52 rfl 0 rfl ?_
      refine J_getR hX dX11_laysSeen_53 fl_RX11_122 (ltn ltc_78 hn) lo_78 rfl (rt_78_49 _ _ _ _ _) ?_
      refine J_bipush hX (8 : Int32) dX11_laysSeen_56 (by decide) ?_
      refine J_iload_n hX dX11_laysSeen_58 rfl 1 rfl ?_
      refine J_imul hX dX11_laysSeen_59 ?_
      refine J_iload_n hX dX11_laysSeen_60 rfl 3 rfl ?_
      refine J_iadd hX dX11_laysSeen_61 ?_
      refine J_baload hX dX11_laysSeen_62 (ltn ltc_116 hn) lay_116 h (fun h => ?_)
      obtain ⟨gB, h⟩ := gd_some h
      refine J_bastore hX dX11_laysSeen_63 (ltn ltc_116 hn) lay_116 (vzB gB) h (fun m3 h => ?_)
      refine J_iinc hX (v3 + (1 : Int32)) [(3, .int (v3 + (1 : Int32))), (0, .ref 78), (1, .int v1), (2, .int v2)] dX11_laysSeen_64 3 rfl (congrArg (fun z => v3 + z) ic_1) (by decide) rfl ?_
      refine J_goto hX 14 dX11_laysSeen_67 (by decide) ?_
      refine J_sub [(0, .ref 78), (1, .int v1), (2, .int v2), (3, .int (v3 + (1 : Int32)))] [1, 2, 3, 0] rfl ?_
      exact ih v1 v2 (v3 + (1 : Int32)) m3 h
    · exact J_return hX dX11_laysSeen_70 h hF
def f_X11_laysSeen (x1 : Int32) (x2 : Int32) (m : Mm) : Option (Mm) := gd (inb x1 3) (gd (inb x2 3) (stI m 114 (ix x2) (gI m 114 (ix x1)) (fun m1 => f_X11_laysSeen_L14 FU x1 x2 (0 : Int32)  m1)))
theorem t_X11_laysSeen {X : XX} {G : GG} {ρ : Nat → Nat} {n t u w v : Nat} {x : Option Nat} {d : Nat} (hX : Ok X G ρ cX11_laysSeen 4 RX11 d) (hd0 : 0 ≤ d) (hn : 126 ≤ n) {mE : Mm} (hF : Fin' X G ρ n none none (RT t u w v x) mE) {x1 : Int32} {x2 : Int32} {m : Mm} (h : f_X11_laysSeen x1 x2 m = some mE) : J X G ρ n 4 0 [(0, .ref 78), (1, .int x1), (2, .int x2)] [] (RT t u w v x) m := by
  unfold f_X11_laysSeen at h
  refine J_aload_n hX dX11_laysSeen_0 rfl 0 rfl ?_
  refine J_getR hX dX11_laysSeen_1 fl_RX11_116 (ltn ltc_78 hn) lo_78 rfl (rt_78_47 _ _ _ _ _) ?_
  refine J_iload_n hX dX11_laysSeen_4 rfl 2 rfl ?_
  refine J_aload_n hX dX11_laysSeen_5 rfl 0 rfl ?_
  refine J_getR hX dX11_laysSeen_6 fl_RX11_116 (ltn ltc_78 hn) lo_78 rfl (rt_78_47 _ _ _ _ _) ?_
  refine J_iload_n hX dX11_laysSeen_9 rfl 1 rfl ?_
  refine J_iaload hX dX11_laysSeen_10 (ltn ltc_114 hn) lay_114 h (fun h => ?_)
  refine J_iastore hX dX11_laysSeen_11 (ltn ltc_114 hn) lay_114 h (fun m1 h => ?_)
  refine J_iconst hX (0 : Int32) dX11_laysSeen_12 ic_0 ?_
  refine J_istore_n hX [(3, .int (0 : Int32)), (0, .ref 78), (1, .int x1), (2, .int x2)] dX11_laysSeen_13 rfl (by decide) rfl ?_
  refine J_sub [(0, .ref 78), (1, .int x1), (2, .int x2), (3, .int (0 : Int32))] [1, 2, 3, 0] rfl ?_
  exact t_X11_laysSeen_L14 hX hd0 hn hF FU x1 x2 (0 : Int32)  m1 h
theorem c_X11_laysSeen {G : GG} {l : Launch} {ρ : Nat → Nat} {n t u w v : Nat} {x : Option Nat} (hn : 126 ≤ n) {x1 : Int32} {x2 : Int32} {m : Mm} {mE : Mm} (h : f_X11_laysSeen x1 x2 m = some mE) : CT G l yX11_laysSeen cX11_laysSeen 4 none 0 0 0 ρ n (RT t u w v x) [.ref 78, .int x1, .int x2] m none (RT t u w v x) mE := ct_of_J (by decide) rfl (Nat.le_of_ble_eq_true rfl) (fun X hX e1 e2 e3 e4 hQ hr hl => t_X11_laysSeen hX (Nat.le_refl _) hn ⟨by rw [hQ, e3, e4], hr, hl⟩ h)
def f_X11_mark_J59 (v1 : Int32) (v2 : Int32) (v3 : Int32) (s0 : Int32) (m : Mm) : Option (Int32 × Mm) := bd1 (f_X11_laysSeen v3 s0 m) (fun m5 => (if v2 = 0 then bd1 (f_X11_copies 117 120 (0 : Int32) ((374 : Int32) * v1) m5) (fun m6 => some ((1 : Int32), m6)) else bd1 (f_X11_copies 120 117 ((374 : Int32) * v1) (0 : Int32) m5) (fun m7 => some ((1 : Int32), m7))))
theorem t_X11_mark_J59 {X : XX} {G : GG} {ρ : Nat → Nat} {n t u w v : Nat} {x : Option Nat} {d : Nat} (hX : Ok X G ρ cX11_mark 5 RX11 d) (hd0 : 1 ≤ d) (hn : 126 ≤ n) {rE : Int32} {mE : Mm} (hF : Fin' X G ρ n (some .boolean) (some (.int rE)) (RT t u w v x) mE) (v1 : Int32) (v2 : Int32) (v3 : Int32) (s0 : Int32) (m : Mm) (h : f_X11_mark_J59 v1 v2 v3 s0 m = some (rE, mE)) : J X G ρ n 5 59 [(0, .ref 78), (1, .int v1), (2, .int v2), (3, .int v3)] [.int s0] (RT t u w v x) m := by
  unfold f_X11_mark_J59 at h
  refine J_istore hX [(4, .int s0), (0, .ref 78), (1, .int v1), (2, .int v2), (3, .int v3)] dX11_mark_59 (by decide) rfl ?_
  refine J_aload_n hX dX11_mark_61 rfl 1 rfl ?_
  refine J_iload_n hX dX11_mark_62 rfl 4 rfl ?_
  refine J_iload hX dX11_mark_63 0 rfl ?_
  obtain ⟨m5, h0, h⟩ := bd1_some h
  refine J_callVv (As := [.int v3, .int s0]) (st := []) hX dX11_mark_65 cw_RX11_502 (by omega) (c_X11_laysSeen hn  h0) (ltn ltc_78 hn) lo_78 (by decide) rfl rfl rfl (Nat.le_of_ble_eq_true rfl) ?_
  clear h0
  refine J_iload_n hX dX11_mark_68 rfl 3 rfl ?_
  refine J_if_eq hX 92 dX11_mark_69 (by decide) h (fun c h => ?_) (fun c h => ?_)
  · refine J_aload_n hX dX11_mark_92 rfl 1 rfl ?_
    refine J_getR hX dX11_mark_93 fl_RX11_125 (ltn ltc_78 hn) lo_78 rfl (rt_78_50 _ _ _ _ _) ?_
    refine J_iconst hX (0 : Int32) dX11_mark_96 ic_0 ?_
    refine J_aload_n hX dX11_mark_97 rfl 1 rfl ?_
    refine J_getR hX dX11_mark_98 fl_RX11_134 (ltn ltc_78 hn) lo_78 rfl (rt_78_53 _ _ _ _ _) ?_
    refine J_sipush hX (374 : Int32) dX11_mark_101 (by decide) ?_
    refine J_iload_n hX dX11_mark_104 rfl 2 rfl ?_
    refine J_imul hX dX11_mark_105 ?_
    obtain ⟨m6, h0, h⟩ := bd1_some h
    refine J_callSv (As := [.ref 117, .int (0 : Int32), .ref 120, .int ((374 : Int32) * v1)]) (st := []) hX dX11_mark_106 cw_RX11_418 (by omega) (c_X11_copies hn p_isIa_117 p_isIa_120 h0) rfl rfl (Nat.le_of_ble_eq_true rfl) ?_
    clear h0
    refine J_iconst hX (1 : Int32) dX11_mark_109 ic_1 ?_
    exact J_ireturn hX dX11_mark_110 h hF narrow_b1
  · refine J_aload_n hX dX11_mark_72 rfl 1 rfl ?_
    refine J_getR hX dX11_mark_73 fl_RX11_134 (ltn ltc_78 hn) lo_78 rfl (rt_78_53 _ _ _ _ _) ?_
    refine J_sipush hX (374 : Int32) dX11_mark_76 (by decide) ?_
    refine J_iload_n hX dX11_mark_79 rfl 2 rfl ?_
    refine J_imul hX dX11_mark_80 ?_
    refine J_aload_n hX dX11_mark_81 rfl 1 rfl ?_
    refine J_getR hX dX11_mark_82 fl_RX11_125 (ltn ltc_78 hn) lo_78 rfl (rt_78_50 _ _ _ _ _) ?_
    refine J_iconst hX (0 : Int32) dX11_mark_85 ic_0 ?_
    obtain ⟨m7, h0, h⟩ := bd1_some h
    refine J_callSv (As := [.ref 120, .int ((374 : Int32) * v1), .ref 117, .int (0 : Int32)]) (st := []) hX dX11_mark_86 cw_RX11_418 (by omega) (c_X11_copies hn p_isIa_120 p_isIa_117 h0) rfl rfl (Nat.le_of_ble_eq_true rfl) ?_
    clear h0
    refine J_goto hX 109 dX11_mark_89 (by decide) ?_
    refine J_iconst hX (1 : Int32) dX11_mark_109 ic_1 ?_
    exact J_ireturn hX dX11_mark_110 h hF narrow_b1
def f_X11_mark_J47 (v1 : Int32) (v2 : Int32) (s0 : Int32) (m : Mm) : Option (Int32 × Mm) := (if v2 = 0 then f_X11_mark_J59 v1 v2 s0 ((1 : Int32) + v1) m else f_X11_mark_J59 v1 v2 s0 (0 : Int32) m)
theorem t_X11_mark_J47 {X : XX} {G : GG} {ρ : Nat → Nat} {n t u w v : Nat} {x : Option Nat} {d : Nat} (hX : Ok X G ρ cX11_mark 5 RX11 d) (hd0 : 1 ≤ d) (hn : 126 ≤ n) {rE : Int32} {mE : Mm} (hF : Fin' X G ρ n (some .boolean) (some (.int rE)) (RT t u w v x) mE) (v1 : Int32) (v2 : Int32) (s0 : Int32) (m : Mm) (h : f_X11_mark_J47 v1 v2 s0 m = some (rE, mE)) : J X G ρ n 5 47 [(0, .ref 78), (1, .int v1), (2, .int v2)] [.int s0] (RT t u w v x) m := by
  unfold f_X11_mark_J47 at h
  refine J_istore_n hX [(3, .int s0), (0, .ref 78), (1, .int v1), (2, .int v2)] dX11_mark_47 rfl (by decide) rfl ?_
  refine J_iload_n hX dX11_mark_48 rfl 3 rfl ?_
  refine J_if_eq hX 56 dX11_mark_49 (by decide) h (fun c h => ?_) (fun c h => ?_)
  · refine J_iconst hX (1 : Int32) dX11_mark_56 ic_1 ?_
    refine J_iload_n hX dX11_mark_57 rfl 2 rfl ?_
    refine J_iadd hX dX11_mark_58 ?_
    refine J_sub [(0, .ref 78), (1, .int v1), (2, .int v2), (3, .int s0)] [1, 2, 3, 0] rfl ?_
    exact t_X11_mark_J59 hX hd0 hn hF v1 v2 s0 ((1 : Int32) + v1) m h
  · refine J_iconst hX (0 : Int32) dX11_mark_52 ic_0 ?_
    refine J_goto hX 59 dX11_mark_53 (by decide) ?_
    refine J_sub [(0, .ref 78), (1, .int v1), (2, .int v2), (3, .int s0)] [1, 2, 3, 0] rfl ?_
    exact t_X11_mark_J59 hX hd0 hn hF v1 v2 s0 (0 : Int32) m h
def f_X11_mark_J29 (v1 : Int32) (v2 : Int32) (m : Mm) : Option (Int32 × Mm) := gd (inb v1 2) (stI m 121 (ix v1) (1 : Int32) (fun m4 => (if v2 = 0 then f_X11_mark_J47 v1 v2 (0 : Int32) m4 else f_X11_mark_J47 v1 v2 ((1 : Int32) + v1) m4)))
theorem t_X11_mark_J29 {X : XX} {G : GG} {ρ : Nat → Nat} {n t u w v : Nat} {x : Option Nat} {d : Nat} (hX : Ok X G ρ cX11_mark 5 RX11 d) (hd0 : 1 ≤ d) (hn : 126 ≤ n) {rE : Int32} {mE : Mm} (hF : Fin' X G ρ n (some .boolean) (some (.int rE)) (RT t u w v x) mE) (v1 : Int32) (v2 : Int32) (m : Mm) (h : f_X11_mark_J29 v1 v2 m = some (rE, mE)) : J X G ρ n 5 29 [(0, .ref 78), (1, .int v1), (2, .int v2)] [] (RT t u w v x) m := by
  unfold f_X11_mark_J29 at h
  refine J_aload_n hX dX11_mark_29 rfl 0 rfl ?_
  refine J_getR hX dX11_mark_30 fl_RX11_137 (ltn ltc_78 hn) lo_78 rfl (rt_78_54 _ _ _ _ _) ?_
  refine J_iload_n hX dX11_mark_33 rfl 1 rfl ?_
  refine J_iconst hX (1 : Int32) dX11_mark_34 ic_1 ?_
  refine J_bastore hX dX11_mark_35 (ltn ltc_121 hn) lay_121 vz1 h (fun m4 h => ?_)
  refine J_iload_n hX dX11_mark_36 rfl 2 rfl ?_
  refine J_if_eq hX 46 dX11_mark_37 (by decide) h (fun c h => ?_) (fun c h => ?_)
  · refine J_iconst hX (0 : Int32) dX11_mark_46 ic_0 ?_
    exact t_X11_mark_J47 hX hd0 hn hF v1 v2 (0 : Int32) m4 h
  · refine J_iconst hX (1 : Int32) dX11_mark_40 ic_1 ?_
    refine J_iload_n hX dX11_mark_41 rfl 1 rfl ?_
    refine J_iadd hX dX11_mark_42 ?_
    refine J_goto hX 47 dX11_mark_43 (by decide) ?_
    exact t_X11_mark_J47 hX hd0 hn hF v1 v2 ((1 : Int32) + v1) m4 h
def f_X11_mark (x1 : Int32) (x2 : Int32) (m : Mm) : Option (Int32 × Mm) := stI m 78 0 (0 : Int32) (fun m1 => bd2 (f_X11_within x1 (0 : Int32) (1 : Int32) m1) (fun r3 m2 => (if r3 = 0 then some ((0 : Int32), m2) else (if x2 = 0 then f_X11_mark_J29 x1 x2  m2 else gd (inb x1 2) ((if (gI m2 121 (ix x1)) = 0 then some ((0 : Int32), m2) else f_X11_mark_J29 x1 x2  m2))))))
theorem t_X11_mark {X : XX} {G : GG} {ρ : Nat → Nat} {n t u w v : Nat} {x : Option Nat} {d : Nat} (hX : Ok X G ρ cX11_mark 5 RX11 d) (hd0 : 1 ≤ d) (hn : 126 ≤ n) {rE : Int32} {mE : Mm} (hF : Fin' X G ρ n (some .boolean) (some (.int rE)) (RT t u w v x) mE) {x1 : Int32} {x2 : Int32} {m : Mm} (h : f_X11_mark x1 x2 m = some (rE, mE)) : J X G ρ n 5 0 [(0, .ref 78), (1, .int x1), (2, .int x2)] [] (RT t u w v x) m := by
  unfold f_X11_mark at h
  refine J_aload_n hX dX11_mark_0 rfl 0 rfl ?_
  refine J_iconst hX (0 : Int32) dX11_mark_1 ic_0 ?_
  refine J_putI hX dX11_mark_2 pl_RX11_152 (ltn ltc_78 hn) lo_78 rfl rfl rfl h (fun m1 h => ?_)
  refine J_iload_n hX dX11_mark_5 rfl 1 rfl ?_
  refine J_iconst hX (0 : Int32) dX11_mark_6 ic_0 ?_
  refine J_iconst hX (1 : Int32) dX11_mark_7 ic_1 ?_
  obtain ⟨r3, m2, h0, h⟩ := bd2_some h
  refine J_callSi (As := [.int x1, .int (0 : Int32), .int (1 : Int32)]) (st := []) hX dX11_mark_8 cw_RX11_239 (by omega) (c_X11_within hn  h0) rfl rfl (Nat.le_of_ble_eq_true rfl) ?_
  clear h0
  refine J_if_eq hX 27 dX11_mark_11 (by decide) h (fun c h => ?_) (fun c h => ?_)
  · refine J_iconst hX (0 : Int32) dX11_mark_27 ic_0 ?_
    exact J_ireturn hX dX11_mark_28 h hF narrow_b0
  · refine J_iload_n hX dX11_mark_14 rfl 2 rfl ?_
    refine J_if_eq hX 29 dX11_mark_15 (by decide) h (fun c h => ?_) (fun c h => ?_)
    · exact t_X11_mark_J29 hX hd0 hn hF x1 x2  m2 h
    · refine J_aload_n hX dX11_mark_18 rfl 0 rfl ?_
      refine J_getR hX dX11_mark_19 fl_RX11_137 (ltn ltc_78 hn) lo_78 rfl (rt_78_54 _ _ _ _ _) ?_
      refine J_iload_n hX dX11_mark_22 rfl 1 rfl ?_
      refine J_baload hX dX11_mark_23 (ltn ltc_121 hn) lay_121 h (fun h => ?_)
      refine J_if_ne hX 29 dX11_mark_24 (by decide) h (fun c h => ?_) (fun c h => ?_)
      · refine J_iconst hX (0 : Int32) dX11_mark_27 ic_0 ?_
        exact J_ireturn hX dX11_mark_28 h hF narrow_b0
      · exact t_X11_mark_J29 hX hd0 hn hF x1 x2  m2 h
theorem c_X11_mark {G : GG} {l : Launch} {ρ : Nat → Nat} {n t u w v : Nat} {x : Option Nat} (hn : 126 ≤ n) {x1 : Int32} {x2 : Int32} {m : Mm} {rE : Int32} {mE : Mm} (h : f_X11_mark x1 x2 m = some (rE, mE)) : CT G l yX11_mark cX11_mark 5 (some .boolean) 1 0 0 ρ n (RT t u w v x) [.ref 78, .int x1, .int x2] m (some (.int rE)) (RT t u w v x) mE := ct_of_J (by decide) rfl (Nat.le_of_ble_eq_true rfl) (fun X hX e1 e2 e3 e4 hQ hr hl => t_X11_mark hX (Nat.le_refl _) hn ⟨by rw [hQ, e3, e4], hr, hl⟩ h)
def f_X10_count (t : Nat) (u : Nat) (w : Nat) (v : Nat) (x1 : Int32) (m : Mm) : Option (Int32 × Mm) := (if x1 = (0 : Int32) then some ((gI m 26 0), m) else (if x1 = (1 : Int32) then some ((gI m t 2), m) else (if x1 = (2 : Int32) then some ((gI m 26 1), m) else (if x1 = (3 : Int32) then some ((gI m 26 2), m) else (if x1 = (4 : Int32) then some ((gI m 54 1), m) else (if x1 = (5 : Int32) then bd2 (f_X6_unitsThat 54 (2 : Int32) m) (fun r2 m1 => some (r2, m1)) else (if x1 = (6 : Int32) then bd2 (f_X6_unitsThat 54 (1 : Int32) m) (fun r4 m3 => some (r4, m3)) else (if x1 = (7 : Int32) then bd2 (f_X6_deadStripes 54 m) (fun r6 m5 => some (r6, m5)) else (if x1 = (8 : Int32) then bd2 (f_X6_allLoads 54 m) (fun r8 m7 => some (r8, m7)) else (if x1 = (9 : Int32) then bd2 (f_X8_pace t m) (fun r10 m9 => some (r10, m9)) else (if x1 = (10 : Int32) then some ((gI m w 4), m) else (if x1 = (11 : Int32) then some ((gI m 54 5), m) else (if x1 = (12 : Int32) then some ((gI m 1 1), m) else some ((-1 : Int32), m))))))))))))))
theorem t_X10_count {X : XX} {G : GG} {ρ : Nat → Nat} {n : Nat} {x : Option Nat} {d : Nat} {t : Nat} {u : Nat} {w : Nat} {v : Nat} (hX : Ok X G ρ cX10_count 2 RX10 d) (hd0 : 3 ≤ d) (hn : 126 ≤ n) (ht : isTo t) (hu : isTo u) (hw : isWk w) (hv : isWk v) {rE : Int32} {mE : Mm} (hF : Fin' X G ρ n (some .int) (some (.int rE)) (RT t u w v x) mE) {x1 : Int32} {m : Mm} (h : f_X10_count t u w v x1 m = some (rE, mE)) : J X G ρ n 2 0 [(0, .ref 0), (1, .int x1)] [] (RT t u w v x) m := by
  unfold f_X10_count at h
  refine J_iload_n hX dX10_count_0 rfl 1 rfl ?_
  refine J_split h (fun c0 h => ?_) (fun c0 h => ?_)
  · refine J_tabIn hX 68 (0 : Int32) dX10_count_1 c0 (by decide) (by decide) (by decide) (by decide) ?_
    refine J_aload_n hX dX10_count_68 rfl 0 rfl ?_
    refine J_getR hX dX10_count_69 fl_RX10_48 (ltn ltc_0 hn) lo_0 rfl (rt_0_6 _ _ _ _ _) ?_
    refine J_getI hX dX10_count_72 fl_RX10_110 (ltn ltc_26 hn) lo_26 rfl ?_
    exact J_ireturn hX dX10_count_75 h hF rfl
  · refine J_split h (fun c1 h => ?_) (fun c1 h => ?_)
    · refine J_tabIn hX 76 (1 : Int32) dX10_count_1 c1 (by decide) (by decide) (by decide) (by decide) ?_
      refine J_aload_n hX dX10_count_76 rfl 0 rfl ?_
      refine J_getR hX dX10_count_77 fl_RX10_28 (ltn ltc_0 hn) lo_0 rfl (rt_0_2 _ _ _ _ _) ?_
      refine J_getI hX dX10_count_80 fl_RX10_243 (ltn (lt_isTo_0 ht) hn) (lo_isTo_0 ht) rfl ?_
      exact J_ireturn hX dX10_count_83 h hF rfl
    · refine J_split h (fun c2 h => ?_) (fun c2 h => ?_)
      · refine J_tabIn hX 84 (2 : Int32) dX10_count_1 c2 (by decide) (by decide) (by decide) (by decide) ?_
        refine J_aload_n hX dX10_count_84 rfl 0 rfl ?_
        refine J_getR hX dX10_count_85 fl_RX10_48 (ltn ltc_0 hn) lo_0 rfl (rt_0_6 _ _ _ _ _) ?_
        refine J_getI hX dX10_count_88 fl_RX10_325 (ltn ltc_26 hn) lo_26 rfl ?_
        exact J_ireturn hX dX10_count_91 h hF rfl
      · refine J_split h (fun c3 h => ?_) (fun c3 h => ?_)
        · refine J_tabIn hX 92 (3 : Int32) dX10_count_1 c3 (by decide) (by decide) (by decide) (by decide) ?_
          refine J_aload_n hX dX10_count_92 rfl 0 rfl ?_
          refine J_getR hX dX10_count_93 fl_RX10_48 (ltn ltc_0 hn) lo_0 rfl (rt_0_6 _ _ _ _ _) ?_
          refine J_getI hX dX10_count_96 fl_RX10_107 (ltn ltc_26 hn) lo_26 rfl ?_
          exact J_ireturn hX dX10_count_99 h hF rfl
        · refine J_split h (fun c4 h => ?_) (fun c4 h => ?_)
          · refine J_tabIn hX 100 (4 : Int32) dX10_count_1 c4 (by decide) (by decide) (by decide) (by decide) ?_
            refine J_aload_n hX dX10_count_100 rfl 0 rfl ?_
            refine J_getR hX dX10_count_101 fl_RX10_60 (ltn ltc_0 hn) lo_0 rfl (rt_0_8 _ _ _ _ _) ?_
            refine J_getI hX dX10_count_104 fl_RX10_328 (ltn ltc_54 hn) lo_54 rfl ?_
            exact J_ireturn hX dX10_count_107 h hF rfl
          · refine J_split h (fun c5 h => ?_) (fun c5 h => ?_)
            · refine J_tabIn hX 108 (5 : Int32) dX10_count_1 c5 (by decide) (by decide) (by decide) (by decide) ?_
              refine J_aload_n hX dX10_count_108 rfl 0 rfl ?_
              refine J_getR hX dX10_count_109 fl_RX10_60 (ltn ltc_0 hn) lo_0 rfl (rt_0_8 _ _ _ _ _) ?_
              refine J_iconst hX (2 : Int32) dX10_count_112 ic_2 ?_
              obtain ⟨r2, m1, h0, h⟩ := bd2_some h
              refine J_callVi (As := [.int (2 : Int32)]) (st := []) hX dX10_count_113 cw_RX10_331 (by omega) (c_X6_unitsThat hn p_isSt_54 h0) (ltn ltc_54 hn) lo_54 (by decide) rfl rfl rfl (Nat.le_of_ble_eq_true rfl) ?_
              clear h0
              exact J_ireturn hX dX10_count_116 h hF rfl
            · refine J_split h (fun c6 h => ?_) (fun c6 h => ?_)
              · refine J_tabIn hX 117 (6 : Int32) dX10_count_1 c6 (by decide) (by decide) (by decide) (by decide) ?_
                refine J_aload_n hX dX10_count_117 rfl 0 rfl ?_
                refine J_getR hX dX10_count_118 fl_RX10_60 (ltn ltc_0 hn) lo_0 rfl (rt_0_8 _ _ _ _ _) ?_
                refine J_iconst hX (1 : Int32) dX10_count_121 ic_1 ?_
                obtain ⟨r4, m3, h0, h⟩ := bd2_some h
                refine J_callVi (As := [.int (1 : Int32)]) (st := []) hX dX10_count_122 cw_RX10_331 (by omega) (c_X6_unitsThat hn p_isSt_54 h0) (ltn ltc_54 hn) lo_54 (by decide) rfl rfl rfl (Nat.le_of_ble_eq_true rfl) ?_
                clear h0
                exact J_ireturn hX dX10_count_125 h hF rfl
              · refine J_split h (fun c7 h => ?_) (fun c7 h => ?_)
                · refine J_tabIn hX 126 (7 : Int32) dX10_count_1 c7 (by decide) (by decide) (by decide) (by decide) ?_
                  refine J_aload_n hX dX10_count_126 rfl 0 rfl ?_
                  refine J_getR hX dX10_count_127 fl_RX10_60 (ltn ltc_0 hn) lo_0 rfl (rt_0_8 _ _ _ _ _) ?_
                  obtain ⟨r6, m5, h0, h⟩ := bd2_some h
                  refine J_callVi (As := []) (st := []) hX dX10_count_130 cw_RX10_227 (by omega) (c_X6_deadStripes hn p_isSt_54 h0) (ltn ltc_54 hn) lo_54 (by decide) rfl rfl rfl (Nat.le_of_ble_eq_true rfl) ?_
                  clear h0
                  exact J_ireturn hX dX10_count_133 h hF rfl
                · refine J_split h (fun c8 h => ?_) (fun c8 h => ?_)
                  · refine J_tabIn hX 134 (8 : Int32) dX10_count_1 c8 (by decide) (by decide) (by decide) (by decide) ?_
                    refine J_aload_n hX dX10_count_134 rfl 0 rfl ?_
                    refine J_getR hX dX10_count_135 fl_RX10_60 (ltn ltc_0 hn) lo_0 rfl (rt_0_8 _ _ _ _ _) ?_
                    obtain ⟨r8, m7, h0, h⟩ := bd2_some h
                    refine J_callVi (As := []) (st := []) hX dX10_count_138 cw_RX10_223 (by omega) (c_X6_allLoads hn p_isSt_54 h0) (ltn ltc_54 hn) lo_54 (by decide) rfl rfl rfl (Nat.le_of_ble_eq_true rfl) ?_
                    clear h0
                    exact J_ireturn hX dX10_count_141 h hF rfl
                  · refine J_split h (fun c9 h => ?_) (fun c9 h => ?_)
                    · refine J_tabIn hX 142 (9 : Int32) dX10_count_1 c9 (by decide) (by decide) (by decide) (by decide) ?_
                      refine J_aload_n hX dX10_count_142 rfl 0 rfl ?_
                      refine J_getR hX dX10_count_143 fl_RX10_28 (ltn ltc_0 hn) lo_0 rfl (rt_0_2 _ _ _ _ _) ?_
                      obtain ⟨r10, m9, h0, h⟩ := bd2_some h
                      refine J_callVi (As := []) (st := []) hX dX10_count_146 cw_RX10_273 (by omega) (c_X8_pace hn ht h0) (ltn (lt_isTo_0 ht) hn) (lo_isTo_0 ht) (by decide) rfl rfl rfl (Nat.le_of_ble_eq_true rfl) ?_
                      clear h0
                      exact J_ireturn hX dX10_count_149 h hF rfl
                    · refine J_split h (fun c10 h => ?_) (fun c10 h => ?_)
                      · refine J_tabIn hX 150 (10 : Int32) dX10_count_1 c10 (by decide) (by decide) (by decide) (by decide) ?_
                        refine J_aload_n hX dX10_count_150 rfl 0 rfl ?_
                        refine J_getR hX dX10_count_151 fl_RX10_38 (ltn ltc_0 hn) lo_0 rfl (rt_0_4 _ _ _ _ _) ?_
                        refine J_getI hX dX10_count_154 fl_RX10_103 (ltn (lt_isWk_0 hw) hn) (lo_isWk_0 hw) rfl ?_
                        exact J_ireturn hX dX10_count_157 h hF rfl
                      · refine J_split h (fun c11 h => ?_) (fun c11 h => ?_)
                        · refine J_tabIn hX 158 (11 : Int32) dX10_count_1 c11 (by decide) (by decide) (by decide) (by decide) ?_
                          refine J_aload_n hX dX10_count_158 rfl 0 rfl ?_
                          refine J_getR hX dX10_count_159 fl_RX10_60 (ltn ltc_0 hn) lo_0 rfl (rt_0_8 _ _ _ _ _) ?_
                          refine J_getI hX dX10_count_162 fl_RX10_334 (ltn ltc_54 hn) lo_54 rfl ?_
                          exact J_ireturn hX dX10_count_165 h hF rfl
                        · refine J_split h (fun c12 h => ?_) (fun c12 h => ?_)
                          · refine J_tabIn hX 166 (12 : Int32) dX10_count_1 c12 (by decide) (by decide) (by decide) (by decide) ?_
                            refine J_aload_n hX dX10_count_166 rfl 0 rfl ?_
                            refine J_getR hX dX10_count_167 fl_RX10_12 (ltn ltc_0 hn) lo_0 rfl (rt_0_0 _ _ _ _ _) ?_
                            refine J_getI hX dX10_count_170 fl_RX10_88 (ltn ltc_1 hn) lo_1 rfl ?_
                            exact J_ireturn hX dX10_count_173 h hF rfl
                          · refine J_tabOut hX 174 [(0 : Int32), (1 : Int32), (2 : Int32), (3 : Int32), (4 : Int32), (5 : Int32), (6 : Int32), (7 : Int32), (8 : Int32), (9 : Int32), (10 : Int32), (11 : Int32), (12 : Int32)] dX10_count_1 (by decide) (by simp only [List.mem_cons, List.not_mem_nil, or_false, not_or]; exact ⟨c0, c1, c2, c3, c4, c5, c6, c7, c8, c9, c10, c11, c12⟩) (by decide) ?_
                            refine J_iconst hX (-1 : Int32) dX10_count_174 ic_m1 ?_
                            exact J_ireturn hX dX10_count_175 h hF rfl
theorem c_X10_count {G : GG} {l : Launch} {ρ : Nat → Nat} {n : Nat} {x : Option Nat} (hn : 126 ≤ n) {t : Nat} {u : Nat} {w : Nat} {v : Nat} (ht : isTo t) (hu : isTo u) (hw : isWk w) (hv : isWk v) {x1 : Int32} {m : Mm} {rE : Int32} {mE : Mm} (h : f_X10_count t u w v x1 m = some (rE, mE)) : CT G l yX10_count cX10_count 2 (some .int) 3 0 0 ρ n (RT t u w v x) [.ref 0, .int x1] m (some (.int rE)) (RT t u w v x) mE := ct_of_J (by decide) rfl (Nat.le_of_ble_eq_true rfl) (fun X hX e1 e2 e3 e4 hQ hr hl => t_X10_count hX (Nat.le_refl _) hn ht hu hw hv ⟨by rw [hQ, e3, e4], hr, hl⟩ h)
def f_X11_count (x1 : Int32) (m : Mm) : Option (Int32 × Mm) := stI m 78 0 (0 : Int32) (fun m1 => bd2 (f_X11_within x1 (0 : Int32) (12 : Int32) m1) (fun r3 m2 => (if r3 = 0 then some ((-1 : Int32), m2) else (if x1 < (4 : Int32) then (if x1 < (2 : Int32) then gd (inb x1 6) (some ((gI m2 80 (ix x1)), m2)) else (if x1 = (2 : Int32) then some ((gI m2 99 (ix (0 : Int32))), m2) else some ((gI m2 108 (ix (0 : Int32))), m2))) else (if x1 < (7 : Int32) then (if x1 = (4 : Int32) then some ((gI m2 117 (ix (0 : Int32))), m2) else (if x1 = (5 : Int32) then bd2 (f_X11_withStatus (2 : Int32) m2) (fun r11 m10 => some (r11, m10)) else bd2 (f_X11_withStatus (1 : Int32) m2) (fun r9 m8 => some (r9, m8)))) else (if x1 < (10 : Int32) then (if x1 = (7 : Int32) then bd2 (f_X11_deadOnes m2) (fun r7 m6 => some (r7, m6)) else (if x1 = (8 : Int32) then bd2 (f_X11_allLoads m2) (fun r5 m4 => some (r5, m4)) else some ((gI m2 80 (ix (2 : Int32))), m2))) else (if x1 = (10 : Int32) then some ((gI m2 110 (ix (0 : Int32))), m2) else (if x1 = (11 : Int32) then some ((gI m2 114 (ix (0 : Int32))), m2) else some ((gI m2 78 1), m2)))))))))
theorem t_X11_count {X : XX} {G : GG} {ρ : Nat → Nat} {n t u w v : Nat} {x : Option Nat} {d : Nat} (hX : Ok X G ρ cX11_count 2 RX11 d) (hd0 : 3 ≤ d) (hn : 126 ≤ n) {rE : Int32} {mE : Mm} (hF : Fin' X G ρ n (some .int) (some (.int rE)) (RT t u w v x) mE) {x1 : Int32} {m : Mm} (h : f_X11_count x1 m = some (rE, mE)) : J X G ρ n 2 0 [(0, .ref 78), (1, .int x1)] [] (RT t u w v x) m := by
  unfold f_X11_count at h
  refine J_aload_n hX dX11_count_0 rfl 0 rfl ?_
  refine J_iconst hX (0 : Int32) dX11_count_1 ic_0 ?_
  refine J_putI hX dX11_count_2 pl_RX11_152 (ltn ltc_78 hn) lo_78 rfl rfl rfl h (fun m1 h => ?_)
  refine J_iload_n hX dX11_count_5 rfl 1 rfl ?_
  refine J_iconst hX (0 : Int32) dX11_count_6 ic_0 ?_
  refine J_bipush hX (12 : Int32) dX11_count_7 (by decide) ?_
  obtain ⟨r3, m2, h0, h⟩ := bd2_some h
  refine J_callSi (As := [.int x1, .int (0 : Int32), .int (12 : Int32)]) (st := []) hX dX11_count_9 cw_RX11_239 (by omega) (c_X11_within hn  h0) rfl rfl (Nat.le_of_ble_eq_true rfl) ?_
  clear h0
  refine J_if_ne hX 17 dX11_count_12 (by decide) h (fun c h => ?_) (fun c h => ?_)
  · refine J_iconst hX (-1 : Int32) dX11_count_15 ic_m1 ?_
    exact J_ireturn hX dX11_count_16 h hF rfl
  · refine J_iload_n hX dX11_count_17 rfl 1 rfl ?_
    refine J_iconst hX (4 : Int32) dX11_count_18 ic_4 ?_
    refine J_icmp_ge hX 57 dX11_count_19 (by decide) h (fun c h => ?_) (fun c h => ?_)
    · refine J_iload_n hX dX11_count_22 rfl 1 rfl ?_
      refine J_iconst hX (2 : Int32) dX11_count_23 ic_2 ?_
      refine J_icmp_ge hX 36 dX11_count_24 (by decide) h (fun c h => ?_) (fun c h => ?_)
      · refine J_aload_n hX dX11_count_27 rfl 0 rfl ?_
        refine J_getR hX dX11_count_28 fl_RX11_13 (ltn ltc_78 hn) lo_78 rfl (rt_78_10 _ _ _ _ _) ?_
        refine J_iload_n hX dX11_count_31 rfl 1 rfl ?_
        refine J_iaload hX dX11_count_32 (ltn ltc_80 hn) lay_80 h (fun h => ?_)
        refine J_goto hX 56 dX11_count_33 (by decide) ?_
        exact J_ireturn hX dX11_count_56 h hF rfl
      · refine J_iload_n hX dX11_count_36 rfl 1 rfl ?_
        refine J_iconst hX (2 : Int32) dX11_count_37 ic_2 ?_
        refine J_icmp_ne hX 50 dX11_count_38 (by decide) h (fun c h => ?_) (fun c h => ?_)
        · refine J_aload_n hX dX11_count_41 rfl 0 rfl ?_
          refine J_getR hX dX11_count_42 fl_RX11_71 (ltn ltc_78 hn) lo_78 rfl (rt_78_32 _ _ _ _ _) ?_
          refine J_iconst hX (0 : Int32) dX11_count_45 ic_0 ?_
          refine J_iaload0 hX dX11_count_46 (ltn ltc_99 hn) lay_99 (by decide) ?_
          refine J_goto hX 56 dX11_count_47 (by decide) ?_
          exact J_ireturn hX dX11_count_56 h hF rfl
        · refine J_aload_n hX dX11_count_50 rfl 0 rfl ?_
          refine J_getR hX dX11_count_51 fl_RX11_98 (ltn ltc_78 hn) lo_78 rfl (rt_78_41 _ _ _ _ _) ?_
          refine J_iconst hX (0 : Int32) dX11_count_54 ic_0 ?_
          refine J_iaload0 hX dX11_count_55 (ltn ltc_108 hn) lay_108 (by decide) ?_
          exact J_ireturn hX dX11_count_56 h hF rfl
    · refine J_iload_n hX dX11_count_57 rfl 1 rfl ?_
      refine J_bipush hX (7 : Int32) dX11_count_58 (by decide) ?_
      refine J_icmp_ge hX 92 dX11_count_60 (by decide) h (fun c h => ?_) (fun c h => ?_)
      · refine J_iload_n hX dX11_count_63 rfl 1 rfl ?_
        refine J_iconst hX (4 : Int32) dX11_count_64 ic_4 ?_
        refine J_icmp_ne hX 77 dX11_count_65 (by decide) h (fun c h => ?_) (fun c h => ?_)
        · refine J_aload_n hX dX11_count_68 rfl 0 rfl ?_
          refine J_getR hX dX11_count_69 fl_RX11_125 (ltn ltc_78 hn) lo_78 rfl (rt_78_50 _ _ _ _ _) ?_
          refine J_iconst hX (0 : Int32) dX11_count_72 ic_0 ?_
          refine J_iaload0 hX dX11_count_73 (ltn ltc_117 hn) lay_117 (by decide) ?_
          refine J_goto hX 91 dX11_count_74 (by decide) ?_
          exact J_ireturn hX dX11_count_91 h hF rfl
        · refine J_aload_n hX dX11_count_77 rfl 0 rfl ?_
          refine J_iload_n hX dX11_count_78 rfl 1 rfl ?_
          refine J_iconst hX (5 : Int32) dX11_count_79 ic_5 ?_
          refine J_icmp_ne hX 87 dX11_count_80 (by decide) h (fun c h => ?_) (fun c h => ?_)
          · refine J_iconst hX (2 : Int32) dX11_count_83 ic_2 ?_
            refine J_goto hX 88 dX11_count_84 (by decide) ?_
            obtain ⟨r11, m10, h0, h⟩ := bd2_some h
            refine J_callVi (As := [.int (2 : Int32)]) (st := []) hX dX11_count_88 cw_RX11_505 (by omega) (c_X11_withStatus hn  h0) (ltn ltc_78 hn) lo_78 (by decide) rfl rfl rfl (Nat.le_of_ble_eq_true rfl) ?_
            clear h0
            exact J_ireturn hX dX11_count_91 h hF rfl
          · refine J_iconst hX (1 : Int32) dX11_count_87 ic_1 ?_
            obtain ⟨r9, m8, h0, h⟩ := bd2_some h
            refine J_callVi (As := [.int (1 : Int32)]) (st := []) hX dX11_count_88 cw_RX11_505 (by omega) (c_X11_withStatus hn  h0) (ltn ltc_78 hn) lo_78 (by decide) rfl rfl rfl (Nat.le_of_ble_eq_true rfl) ?_
            clear h0
            exact J_ireturn hX dX11_count_91 h hF rfl
      · refine J_iload_n hX dX11_count_92 rfl 1 rfl ?_
        refine J_bipush hX (10 : Int32) dX11_count_93 (by decide) ?_
        refine J_icmp_ge hX 131 dX11_count_95 (by decide) h (fun c h => ?_) (fun c h => ?_)
        · refine J_iload_n hX dX11_count_98 rfl 1 rfl ?_
          refine J_bipush hX (7 : Int32) dX11_count_99 (by decide) ?_
          refine J_icmp_ne hX 111 dX11_count_101 (by decide) h (fun c h => ?_) (fun c h => ?_)
          · refine J_aload_n hX dX11_count_104 rfl 0 rfl ?_
            obtain ⟨r7, m6, h0, h⟩ := bd2_some h
            refine J_callVi (As := []) (st := []) hX dX11_count_105 cw_RX11_428 (by omega) (c_X11_deadOnes hn  h0) (ltn ltc_78 hn) lo_78 (by decide) rfl rfl rfl (Nat.le_of_ble_eq_true rfl) ?_
            clear h0
            refine J_goto hX 130 dX11_count_108 (by decide) ?_
            exact J_ireturn hX dX11_count_130 h hF rfl
          · refine J_iload_n hX dX11_count_111 rfl 1 rfl ?_
            refine J_bipush hX (8 : Int32) dX11_count_112 (by decide) ?_
            refine J_icmp_ne hX 124 dX11_count_114 (by decide) h (fun c h => ?_) (fun c h => ?_)
            · refine J_aload_n hX dX11_count_117 rfl 0 rfl ?_
              obtain ⟨r5, m4, h0, h⟩ := bd2_some h
              refine J_callVi (As := []) (st := []) hX dX11_count_118 cw_RX11_425 (by omega) (c_X11_allLoads hn  h0) (ltn ltc_78 hn) lo_78 (by decide) rfl rfl rfl (Nat.le_of_ble_eq_true rfl) ?_
              clear h0
              refine J_goto hX 130 dX11_count_121 (by decide) ?_
              exact J_ireturn hX dX11_count_130 h hF rfl
            · refine J_aload_n hX dX11_count_124 rfl 0 rfl ?_
              refine J_getR hX dX11_count_125 fl_RX11_13 (ltn ltc_78 hn) lo_78 rfl (rt_78_10 _ _ _ _ _) ?_
              refine J_iconst hX (2 : Int32) dX11_count_128 ic_2 ?_
              refine J_iaload0 hX dX11_count_129 (ltn ltc_80 hn) lay_80 (by decide) ?_
              exact J_ireturn hX dX11_count_130 h hF rfl
        · refine J_iload_n hX dX11_count_131 rfl 1 rfl ?_
          refine J_bipush hX (10 : Int32) dX11_count_132 (by decide) ?_
          refine J_icmp_ne hX 146 dX11_count_134 (by decide) h (fun c h => ?_) (fun c h => ?_)
          · refine J_aload_n hX dX11_count_137 rfl 0 rfl ?_
            refine J_getR hX dX11_count_138 fl_RX11_104 (ltn ltc_78 hn) lo_78 rfl (rt_78_43 _ _ _ _ _) ?_
            refine J_iconst hX (0 : Int32) dX11_count_141 ic_0 ?_
            refine J_iaload0 hX dX11_count_142 (ltn ltc_110 hn) lay_110 (by decide) ?_
            refine J_goto hX 165 dX11_count_143 (by decide) ?_
            exact J_ireturn hX dX11_count_165 h hF rfl
          · refine J_iload_n hX dX11_count_146 rfl 1 rfl ?_
            refine J_bipush hX (11 : Int32) dX11_count_147 (by decide) ?_
            refine J_icmp_ne hX 161 dX11_count_149 (by decide) h (fun c h => ?_) (fun c h => ?_)
            · refine J_aload_n hX dX11_count_152 rfl 0 rfl ?_
              refine J_getR hX dX11_count_153 fl_RX11_116 (ltn ltc_78 hn) lo_78 rfl (rt_78_47 _ _ _ _ _) ?_
              refine J_iconst hX (0 : Int32) dX11_count_156 ic_0 ?_
              refine J_iaload0 hX dX11_count_157 (ltn ltc_114 hn) lay_114 (by decide) ?_
              refine J_goto hX 165 dX11_count_158 (by decide) ?_
              exact J_ireturn hX dX11_count_165 h hF rfl
            · refine J_aload_n hX dX11_count_161 rfl 0 rfl ?_
              refine J_getI hX dX11_count_162 fl_RX11_158 (ltn ltc_78 hn) lo_78 rfl ?_
              exact J_ireturn hX dX11_count_165 h hF rfl
theorem c_X11_count {G : GG} {l : Launch} {ρ : Nat → Nat} {n t u w v : Nat} {x : Option Nat} (hn : 126 ≤ n) {x1 : Int32} {m : Mm} {rE : Int32} {mE : Mm} (h : f_X11_count x1 m = some (rE, mE)) : CT G l yX11_count cX11_count 2 (some .int) 3 0 0 ρ n (RT t u w v x) [.ref 78, .int x1] m (some (.int rE)) (RT t u w v x) mE := ct_of_J (by decide) rfl (Nat.le_of_ble_eq_true rfl) (fun X hX e1 e2 e3 e4 hQ hr hl => t_X11_count hX (Nat.le_refl _) hn ⟨by rw [hQ, e3, e4], hr, hl⟩ h)
