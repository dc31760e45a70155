theorem t_J0_isLatin1_aae02 {X : XX} {G : GG} {ρ : Nat → Nat} {n t u w v : Nat} {x : Option Nat} {d : Nat} {a : Nat} (hX : Ok X G ρ cJ0_isLatin1_aae02 1 RJ0 d) (hd0 : 0 ≤ d) (hn : 126 ≤ n) (ha : isTx a) {rE : Int32} {mE : Mm} (hF : Fin' X G ρ n (some .boolean) (some (.int rE)) (RT t u w v x) mE) {m : Mm} (h : f_J0_isLatin1_aae02 a m = some (rE, mE)) : J X G ρ n 1 0 [(0, .ref a)] [] (RT t u w v x) m := by
  unfold f_J0_isLatin1_aae02 at h
  refine J_getCS hX dJ0_isLatin1_aae02_0 ft_RJ0_38 ?_
  refine J_if_eq hX 17 dJ0_isLatin1_aae02_3 (by decide) h (fun c h => ?_) (fun c h => ?_)
  · refine J_iconst hX (0 : Int32) dJ0_isLatin1_aae02_17 ic_0 ?_
    exact J_ireturn hX dJ0_isLatin1_aae02_18 h hF narrow_b0
  · refine J_aload_n hX dJ0_isLatin1_aae02_6 rfl 0 rfl ?_
    refine J_getTc hX ha dJ0_isLatin1_aae02_7 ft_RJ0_15 ?_
    refine J_if_ne hX 17 dJ0_isLatin1_aae02_10 (by decide) h (fun c h => ?_) (fun c h => ?_)
    · refine J_iconst hX (1 : Int32) dJ0_isLatin1_aae02_13 ic_1 ?_
      refine J_goto hX 18 dJ0_isLatin1_aae02_14 (by decide) ?_
      exact J_ireturn hX dJ0_isLatin1_aae02_18 h hF narrow_b1
    · refine J_iconst hX (0 : Int32) dJ0_isLatin1_aae02_17 ic_0 ?_
      exact J_ireturn hX dJ0_isLatin1_aae02_18 h hF narrow_b0
theorem c_J0_isLatin1_aae02 {G : GG} {l : Launch} {ρ : Nat → Nat} {n t u w v : Nat} {x : Option Nat} (hn : 126 ≤ n) {a : Nat} (ha : isTx a) {m : Mm} {rE : Int32} {mE : Mm} (h : f_J0_isLatin1_aae02 a m = some (rE, mE)) : CT G l yJ0_isLatin1_aae02 cJ0_isLatin1_aae02 1 (some .boolean) 0 0 0 ρ n (RT t u w v x) [.ref a] m (some (.int rE)) (RT t u w v x) mE := ct_of_J (by decide +kernel) rfl (Nat.le_of_ble_eq_true rfl) (fun X hX e1 e2 e3 e4 hQ hr hl => t_J0_isLatin1_aae02 hX (Nat.le_refl _) hn ha ⟨by rw [hQ, e3, e4], hr, hl⟩ h)
theorem t_J0_coder_7d493 {X : XX} {G : GG} {ρ : Nat → Nat} {n t u w v : Nat} {x : Option Nat} {d : Nat} {a : Nat} (hX : Ok X G ρ cJ0_coder_7d493 1 RJ0 d) (hd0 : 0 ≤ d) (hn : 126 ≤ n) (ha : isTx a) {rE : Int32} {mE : Mm} (hF : Fin' X G ρ n (some .byte) (some (.int rE)) (RT t u w v x) mE) {m : Mm} (h : f_J0_coder_7d493 a m = some (rE, mE)) : J X G ρ n 1 0 [(0, .ref a)] [] (RT t u w v x) m := by
  unfold f_J0_coder_7d493 at h
  refine J_getCS hX dJ0_coder_7d493_0 ft_RJ0_38 ?_
  refine J_if_eq hX 13 dJ0_coder_7d493_3 (by decide) h (fun c h => ?_) (fun c h => ?_)
  · refine J_iconst hX (1 : Int32) dJ0_coder_7d493_13 ic_1 ?_
    exact J_ireturn hX dJ0_coder_7d493_14 h hF rfl
  · refine J_aload_n hX dJ0_coder_7d493_6 rfl 0 rfl ?_
    refine J_getTc hX ha dJ0_coder_7d493_7 ft_RJ0_15 ?_
    refine J_goto hX 14 dJ0_coder_7d493_10 (by decide) ?_
    exact J_ireturn hX dJ0_coder_7d493_14 h hF rfl
theorem c_J0_coder_7d493 {G : GG} {l : Launch} {ρ : Nat → Nat} {n t u w v : Nat} {x : Option Nat} (hn : 126 ≤ n) {a : Nat} (ha : isTx a) {m : Mm} {rE : Int32} {mE : Mm} (h : f_J0_coder_7d493 a m = some (rE, mE)) : CT G l yJ0_coder_7d493 cJ0_coder_7d493 1 (some .byte) 0 0 0 ρ n (RT t u w v x) [.ref a] m (some (.int rE)) (RT t u w v x) mE := ct_of_J (by decide +kernel) rfl (Nat.le_of_ble_eq_true rfl) (fun X hX e1 e2 e3 e4 hQ hr hl => t_J0_coder_7d493 hX (Nat.le_refl _) hn ha ⟨by rw [hQ, e3, e4], hr, hl⟩ h)
theorem t_J0_length_8abf5 {X : XX} {G : GG} {ρ : Nat → Nat} {n t u w v : Nat} {x : Option Nat} {d : Nat} {a : Nat} (hX : Ok X G ρ cJ0_length_8abf5 1 RJ0 d) (hd0 : 1 ≤ d) (hn : 126 ≤ n) (ha : isTx a) {rE : Int32} {mE : Mm} (hF : Fin' X G ρ n (some .int) (some (.int rE)) (RT t u w v x) mE) {m : Mm} (h : f_J0_length_8abf5 a m = some (rE, mE)) : J X G ρ n 1 0 [(0, .ref a)] [] (RT t u w v x) m := by
  unfold f_J0_length_8abf5 at h
  refine J_aload_n hX dJ0_length_8abf5_0 rfl 0 rfl ?_
  refine J_getTv hX ha dJ0_length_8abf5_1 ft_RJ0_9 ?_
  refine J_txlen hX (isTb_isTx ha) dJ0_length_8abf5_4 ?_
  refine J_aload_n hX dJ0_length_8abf5_5 rfl 0 rfl ?_
  obtain ⟨r2, m1, h0, h⟩ := bd2_some h
  refine J_callTi (As := []) (st := [.int (txl (a + 1000))]) hX dJ0_length_8abf5_6 cw_RJ0_335 (by omega) (c_J0_coder_7d493 hn ha h0) ha rfl rfl (Nat.le_of_ble_eq_true rfl) ?_
  clear h0
  refine J_ishr hX dJ0_length_8abf5_9 ?_
  exact J_ireturn hX dJ0_length_8abf5_10 h hF rfl
theorem c_J0_length_8abf5 {G : GG} {l : Launch} {ρ : Nat → Nat} {n t u w v : Nat} {x : Option Nat} (hn : 126 ≤ n) {a : Nat} (ha : isTx a) {m : Mm} {rE : Int32} {mE : Mm} (h : f_J0_length_8abf5 a m = some (rE, mE)) : CT G l yJ0_length_8abf5 cJ0_length_8abf5 1 (some .int) 1 0 0 ρ n (RT t u w v x) [.ref a] m (some (.int rE)) (RT t u w v x) mE := ct_of_J (by decide +kernel) rfl (Nat.le_of_ble_eq_true rfl) (fun X hX e1 e2 e3 e4 hQ hr hl => t_J0_length_8abf5 hX (Nat.le_refl _) hn ha ⟨by rw [hQ, e3, e4], hr, hl⟩ h)
theorem t_J1_canEncode_9a6ad {X : XX} {G : GG} {ρ : Nat → Nat} {n t u w v : Nat} {x : Option Nat} {d : Nat} (hX : Ok X G ρ cJ1_canEncode_9a6ad 1 RJ1 d) (hd0 : 0 ≤ d) (hn : 126 ≤ n) {rE : Int32} {mE : Mm} (hF : Fin' X G ρ n (some .boolean) (some (.int rE)) (RT t u w v x) mE) {x0 : Int32} {m : Mm} (h : f_J1_canEncode_9a6ad x0 m = some (rE, mE)) : J X G ρ n 1 0 [(0, .int x0)] [] (RT t u w v x) m := by
  unfold f_J1_canEncode_9a6ad at h
  refine J_iload_n hX dJ1_canEncode_9a6ad_0 rfl 0 rfl ?_
  refine J_if_lt hX 15 dJ1_canEncode_9a6ad_1 (by decide) h (fun c h => ?_) (fun c h => ?_)
  · refine J_iconst hX (0 : Int32) dJ1_canEncode_9a6ad_15 ic_0 ?_
    exact J_ireturn hX dJ1_canEncode_9a6ad_16 h hF narrow_b0
  · refine J_iload_n hX dJ1_canEncode_9a6ad_4 rfl 0 rfl ?_
    refine J_sipush hX (255 : Int32) dJ1_canEncode_9a6ad_5 (by decide) ?_
    refine J_icmp_gt hX 15 dJ1_canEncode_9a6ad_8 (by decide) h (fun c h => ?_) (fun c h => ?_)
    · refine J_iconst hX (0 : Int32) dJ1_canEncode_9a6ad_15 ic_0 ?_
      exact J_ireturn hX dJ1_canEncode_9a6ad_16 h hF narrow_b0
    · refine J_iconst hX (1 : Int32) dJ1_canEncode_9a6ad_11 ic_1 ?_
      refine J_goto hX 16 dJ1_canEncode_9a6ad_12 (by decide) ?_
      exact J_ireturn hX dJ1_canEncode_9a6ad_16 h hF narrow_b1
theorem c_J1_canEncode_9a6ad {G : GG} {l : Launch} {ρ : Nat → Nat} {n t u w v : Nat} {x : Option Nat} (hn : 126 ≤ n) {x0 : Int32} {m : Mm} {rE : Int32} {mE : Mm} (h : f_J1_canEncode_9a6ad x0 m = some (rE, mE)) : CT G l yJ1_canEncode_9a6ad cJ1_canEncode_9a6ad 1 (some .boolean) 0 0 0 ρ n (RT t u w v x) [.int x0] m (some (.int rE)) (RT t u w v x) mE := ct_of_J (by decide +kernel) rfl (Nat.le_of_ble_eq_true rfl) (fun X hX e1 e2 e3 e4 hQ hr hl => t_J1_canEncode_9a6ad hX (Nat.le_refl _) hn ⟨by rw [hQ, e3, e4], hr, hl⟩ h)
theorem t_J1_indexOfChar_4cfef_L7 {X : XX} {G : GG} {ρ : Nat → Nat} {n t u w v : Nat} {x : Option Nat} {d : Nat} {p0 : Nat} (hX : Ok X G ρ cJ1_indexOfChar_4cfef 6 RJ1 d) (hd0 : 0 ≤ d) (hn : 126 ≤ n) (hp0 : isTb p0) {rE : Int32} {mE : Mm} (hF : Fin' X G ρ n (some .int) (some (.int rE)) (RT t u w v x) mE) : ∀ (k : Nat) (v3 : Int32) (v4 : Int32) (v5 : Int32) (m : Mm), f_J1_indexOfChar_4cfef_L7 p0 k v3 v4 v5 m = some (rE, mE) → J X G ρ n 6 7 [(0, .ref p0), (3, .int v3), (4, .int v4), (5, .int v5)] [] (RT t u w v x) m := by
  intro k
  induction k with
  | zero => intro _ _ _ _ h; rw [f_J1_indexOfChar_4cfef_L7] at h; cases h
  | succ k ih =>
    intro v3 v4 v5 m h
    rw [f_J1_indexOfChar_4cfef_L7] at h
    refine J_iload hX dJ1_indexOfChar_4cfef_7 3 rfl ?_
    refine J_iload_n hX dJ1_indexOfChar_4cfef_9 rfl 1 rfl ?_
    refine J_icmp_ge hX 31 dJ1_indexOfChar_4cfef_10 (by decide) h (fun c h => ?_) (fun c h => ?_)
    · refine J_aload_n hX dJ1_indexOfChar_4cfef_13 rfl 0 rfl ?_
      refine J_iload hX dJ1_indexOfChar_4cfef_14 3 rfl ?_
      refine J_txb hX hp0 dJ1_indexOfChar_4cfef_16 h (fun h => ?_)
      refine J_iload hX dJ1_indexOfChar_4cfef_17 2 rfl ?_
      refine J_icmp_ne hX 25 dJ1_indexOfChar_4cfef_19 (by decide) h (fun c h => ?_) (fun c h => ?_)
      · refine J_iload hX dJ1_indexOfChar_4cfef_22 3 rfl ?_
        exact J_ireturn hX dJ1_indexOfChar_4cfef_24 h hF rfl
      · refine J_iinc hX (v5 + (1 : Int32)) [(5, .int (v5 + (1 : Int32))), (0, .ref p0), (3, .int v3), (4, .int v4)] dJ1_indexOfChar_4cfef_25 3 rfl (congrArg (fun z => v5 + z) ic_1) (by decide) rfl ?_
        refine J_goto hX 7 dJ1_indexOfChar_4cfef_28 (by decide) ?_
        refine J_sub [(0, .ref p0), (3, .int v3), (4, .int v4), (5, .int (v5 + (1 : Int32)))] [1, 2, 3, 0] rfl ?_
        exact ih v3 v4 (v5 + (1 : Int32)) m h
    · refine J_iconst hX (-1 : Int32) dJ1_indexOfChar_4cfef_31 ic_m1 ?_
      exact J_ireturn hX dJ1_indexOfChar_4cfef_32 h hF rfl
theorem t_J1_indexOfChar_4cfef {X : XX} {G : GG} {ρ : Nat → Nat} {n t u w v : Nat} {x : Option Nat} {d : Nat} {p0 : Nat} (hX : Ok X G ρ cJ1_indexOfChar_4cfef 6 RJ1 d) (hd0 : 0 ≤ d) (hn : 126 ≤ n) (hp0 : isTb p0) {rE : Int32} {mE : Mm} (hF : Fin' X G ρ n (some .int) (some (.int rE)) (RT t u w v x) mE) {x1 : Int32} {x2 : Int32} {x3 : Int32} {m : Mm} (h : f_J1_indexOfChar_4cfef p0 x1 x2 x3 m = some (rE, mE)) : J X G ρ n 6 0 [(0, .ref p0), (1, .int x1), (2, .int x2), (3, .int x3)] [] (RT t u w v x) m := by
  unfold f_J1_indexOfChar_4cfef at h
  refine J_iload_n hX dJ1_indexOfChar_4cfef_0 rfl 1 rfl ?_
  refine J_i2b hX dJ1_indexOfChar_4cfef_1 ?_
  refine J_istore hX [(4, .int x1.toInt8.toInt32), (0, .ref p0), (1, .int x1), (2, .int x2), (3, .int x3)] dJ1_indexOfChar_4cfef_2 (by decide) rfl ?_
  refine J_iload_n hX dJ1_indexOfChar_4cfef_4 rfl 3 rfl ?_
  refine J_istore hX [(5, .int x2), (4, .int x1.toInt8.toInt32), (0, .ref p0), (1, .int x1), (2, .int x2), (3, .int x3)] dJ1_indexOfChar_4cfef_5 (by decide) rfl ?_
  refine J_sub [(0, .ref p0), (3, .int x3), (4, .int x1.toInt8.toInt32), (5, .int x2)] [2, 5, 1, 0] rfl ?_
  exact t_J1_indexOfChar_4cfef_L7 hX hd0 hn hp0 hF FU x3 x1.toInt8.toInt32 x2  m h
theorem c_J1_indexOfChar_4cfef {G : GG} {l : Launch} {ρ : Nat → Nat} {n t u w v : Nat} {x : Option Nat} (hn : 126 ≤ n) {p0 : Nat} (hp0 : isTb p0) {x1 : Int32} {x2 : Int32} {x3 : Int32} {m : Mm} {rE : Int32} {mE : Mm} (h : f_J1_indexOfChar_4cfef p0 x1 x2 x3 m = some (rE, mE)) : CT G l yJ1_indexOfChar_4cfef cJ1_indexOfChar_4cfef 6 (some .int) 0 0 0 ρ n (RT t u w v x) [.ref p0, .int x1, .int x2, .int x3] m (some (.int rE)) (RT t u w v x) mE := ct_of_J (by decide +kernel) rfl (Nat.le_of_ble_eq_true rfl) (fun X hX e1 e2 e3 e4 hQ hr hl => t_J1_indexOfChar_4cfef hX (Nat.le_refl _) hn hp0 ⟨by rw [hQ, e3, e4], hr, hl⟩ h)
theorem t_J1_indexOf_4cfef {X : XX} {G : GG} {ρ : Nat → Nat} {n t u w v : Nat} {x : Option Nat} {d : Nat} {p0 : Nat} (hX : Ok X G ρ cJ1_indexOf_4cfef 4 RJ1 d) (hd0 : 1 ≤ d) (hn : 126 ≤ n) (hp0 : isTb p0) {rE : Int32} {mE : Mm} (hF : Fin' X G ρ n (some .int) (some (.int rE)) (RT t u w v x) mE) {x1 : Int32} {x2 : Int32} {x3 : Int32} {m : Mm} (h : f_J1_indexOf_4cfef p0 x1 x2 x3 m = some (rE, mE)) : J X G ρ n 4 0 [(0, .ref p0), (1, .int x1), (2, .int x2), (3, .int x3)] [] (RT t u w v x) m := by
  unfold f_J1_indexOf_4cfef at h
  refine J_iload_n hX dJ1_indexOf_4cfef_0 rfl 1 rfl ?_
  obtain ⟨r2, m1, h0, h⟩ := bd2_some h
  refine J_callSi (As := [.int x1]) (st := []) hX dJ1_indexOf_4cfef_1 cw_RJ1_88 (by omega) (c_J1_canEncode_9a6ad hn  h0) rfl rfl (Nat.le_of_ble_eq_true rfl) ?_
  clear h0
  refine J_if_ne hX 9 dJ1_indexOf_4cfef_4 (by decide) h (fun c h => ?_) (fun c h => ?_)
  · refine J_iconst hX (-1 : Int32) dJ1_indexOf_4cfef_7 ic_m1 ?_
    exact J_ireturn hX dJ1_indexOf_4cfef_8 h hF rfl
  · refine J_iload_n hX dJ1_indexOf_4cfef_9 rfl 2 rfl ?_
    refine J_iconst hX (0 : Int32) dJ1_indexOf_4cfef_10 ic_0 ?_
    refine J_imax hX dJ1_indexOf_4cfef_11 (by omega) cm_RJ1_92 (Nat.le_of_ble_eq_true rfl) ?_
    refine J_istore_n hX [(2, .int (imax x2 (0 : Int32))), (0, .ref p0), (1, .int x1), (3, .int x3)] dJ1_indexOf_4cfef_14 rfl (by decide) rfl ?_
    refine J_iload_n hX dJ1_indexOf_4cfef_15 rfl 3 rfl ?_
    refine J_aload_n hX dJ1_indexOf_4cfef_16 rfl 1 rfl ?_
    refine J_txlen hX hp0 dJ1_indexOf_4cfef_17 ?_
    refine J_imin hX dJ1_indexOf_4cfef_18 (by omega) cm_RJ1_38 (Nat.le_of_ble_eq_true rfl) ?_
    refine J_istore_n hX [(3, .int (imin x3 (txl p0))), (2, .int (imax x2 (0 : Int32))), (0, .ref p0), (1, .int x1)] dJ1_indexOf_4cfef_21 rfl (by decide) rfl ?_
    refine J_iload_n hX dJ1_indexOf_4cfef_22 rfl 1 rfl ?_
    refine J_iload_n hX dJ1_indexOf_4cfef_23 rfl 0 rfl ?_
    refine J_icmp_lt hX 29 dJ1_indexOf_4cfef_24 (by decide) h (fun c h => ?_) (fun c h => ?_)
    · refine J_aload_n hX dJ1_indexOf_4cfef_29 rfl 2 rfl ?_
      refine J_iload_n hX dJ1_indexOf_4cfef_30 rfl 3 rfl ?_
      refine J_iload_n hX dJ1_indexOf_4cfef_31 rfl 1 rfl ?_
      refine J_iload_n hX dJ1_indexOf_4cfef_32 rfl 0 rfl ?_
      obtain ⟨r4, m3, h0, h⟩ := bd2_some h
      refine J_callSi (As := [.ref p0, .int x1, .int (imax x2 (0 : Int32)), .int (imin x3 (txl p0))]) (st := []) hX dJ1_indexOf_4cfef_33 cw_RJ1_95 (by omega) (c_J1_indexOfChar_4cfef hn hp0 h0) rfl rfl (Nat.le_of_ble_eq_true rfl) ?_
      clear h0
      exact J_ireturn hX dJ1_indexOf_4cfef_36 h hF rfl
    · refine J_iconst hX (-1 : Int32) dJ1_indexOf_4cfef_27 ic_m1 ?_
      exact J_ireturn hX dJ1_indexOf_4cfef_28 h hF rfl
theorem c_J1_indexOf_4cfef {G : GG} {l : Launch} {ρ : Nat → Nat} {n t u w v : Nat} {x : Option Nat} (hn : 126 ≤ n) {p0 : Nat} (hp0 : isTb p0) {x1 : Int32} {x2 : Int32} {x3 : Int32} {m : Mm} {rE : Int32} {mE : Mm} (h : f_J1_indexOf_4cfef p0 x1 x2 x3 m = some (rE, mE)) : CT G l yJ1_indexOf_4cfef cJ1_indexOf_4cfef 4 (some .int) 1 0 0 ρ n (RT t u w v x) [.ref p0, .int x1, .int x2, .int x3] m (some (.int rE)) (RT t u w v x) mE := ct_of_J (by decide +kernel) rfl (Nat.le_of_ble_eq_true rfl) (fun X hX e1 e2 e3 e4 hQ hr hl => t_J1_indexOf_4cfef hX (Nat.le_refl _) hn hp0 ⟨by rw [hQ, e3, e4], hr, hl⟩ h)
theorem t_J0_indexOf_7cf53 {X : XX} {G : GG} {ρ : Nat → Nat} {n t u w v : Nat} {x : Option Nat} {d : Nat} {a : Nat} (hX : Ok X G ρ cJ0_indexOf_7cf53 3 RJ0 d) (hd0 : 2 ≤ d) (hn : 126 ≤ n) (ha : isTx a) {rE : Int32} {mE : Mm} (hF : Fin' X G ρ n (some .int) (some (.int rE)) (RT t u w v x) mE) {x1 : Int32} {x2 : Int32} {m : Mm} (h : f_J0_indexOf_7cf53 a x1 x2 m = some (rE, mE)) : J X G ρ n 3 0 [(0, .ref a), (1, .int x1), (2, .int x2)] [] (RT t u w v x) m := by
  unfold f_J0_indexOf_7cf53 at h
  refine J_aload_n hX dJ0_indexOf_7cf53_0 rfl 0 rfl ?_
  obtain ⟨r2, m1, h0, h⟩ := bd2_some h
  refine J_callTi (As := []) (st := []) hX dJ0_indexOf_7cf53_1 cw_RJ0_492 (by omega) (c_J0_isLatin1_aae02 hn ha h0) ha rfl rfl (Nat.le_of_ble_eq_true rfl) ?_
  clear h0
  refine J_if_eq hX 23 dJ0_indexOf_7cf53_4 (by decide) h (fun c h => ?_) (fun c h => ?_)
  · refine J_aload_n hX dJ0_indexOf_7cf53_23 rfl 0 rfl ?_
    refine J_getTv hX ha dJ0_indexOf_7cf53_24 ft_RJ0_9 ?_
    refine J_iload_n hX dJ0_indexOf_7cf53_27 rfl 1 rfl ?_
    refine J_iload_n hX dJ0_indexOf_7cf53_28 rfl 2 rfl ?_
    refine J_aload_n hX dJ0_indexOf_7cf53_29 rfl 0 rfl ?_
    obtain ⟨r4, m3, h0, h⟩ := bd2_some h
    refine J_callTi (As := []) (st := [.int x2, .int x1, .ref (a + 1000)]) hX dJ0_indexOf_7cf53_30 cw_RJ0_505 (by omega) (c_J0_length_8abf5 hn ha h0) ha rfl rfl (Nat.le_of_ble_eq_true rfl) ?_
    clear h0
    cases h
  · refine J_aload_n hX dJ0_indexOf_7cf53_7 rfl 0 rfl ?_
    refine J_getTv hX ha dJ0_indexOf_7cf53_8 ft_RJ0_9 ?_
    refine J_iload_n hX dJ0_indexOf_7cf53_11 rfl 1 rfl ?_
    refine J_iload_n hX dJ0_indexOf_7cf53_12 rfl 2 rfl ?_
    refine J_aload_n hX dJ0_indexOf_7cf53_13 rfl 0 rfl ?_
    obtain ⟨r6, m5, h0, h⟩ := bd2_some h
    refine J_callTi (As := []) (st := [.int x2, .int x1, .ref (a + 1000)]) hX dJ0_indexOf_7cf53_14 cw_RJ0_505 (by omega) (c_J0_length_8abf5 hn ha h0) ha rfl rfl (Nat.le_of_ble_eq_true rfl) ?_
    clear h0
    obtain ⟨r8, m7, h0, h⟩ := bd2_some h
    refine J_callSi (As := [.ref (a + 1000), .int x1, .int x2, .int r6]) (st := []) hX dJ0_indexOf_7cf53_17 cw_RJ0_637 (by omega) (c_J1_indexOf_4cfef hn (isTb_isTx ha) h0) rfl rfl (Nat.le_of_ble_eq_true rfl) ?_
    clear h0
    refine J_goto hX 36 dJ0_indexOf_7cf53_20 (by decide) ?_
    exact J_ireturn hX dJ0_indexOf_7cf53_36 h hF rfl
theorem c_J0_indexOf_7cf53 {G : GG} {l : Launch} {ρ : Nat → Nat} {n t u w v : Nat} {x : Option Nat} (hn : 126 ≤ n) {a : Nat} (ha : isTx a) {x1 : Int32} {x2 : Int32} {m : Mm} {rE : Int32} {mE : Mm} (h : f_J0_indexOf_7cf53 a x1 x2 m = some (rE, mE)) : CT G l yJ0_indexOf_7cf53 cJ0_indexOf_7cf53 3 (some .int) 2 0 0 ρ n (RT t u w v x) [.ref a, .int x1, .int x2] m (some (.int rE)) (RT t u w v x) mE := ct_of_J (by decide +kernel) rfl (Nat.le_of_ble_eq_true rfl) (fun X hX e1 e2 e3 e4 hQ hr hl => t_J0_indexOf_7cf53 hX (Nat.le_refl _) hn ha ⟨by rw [hQ, e3, e4], hr, hl⟩ h)
theorem t_X7_endOfRun_L5 {X : XX} {G : GG} {ρ : Nat → Nat} {n t u w v : Nat} {x : Option Nat} {d : Nat} (hX : Ok X G ρ cX7_endOfRun 4 RX7 d) (hd0 : 0 ≤ d) (hn : 126 ≤ n) {rE : Int32} {mE : Mm} (hF : Fin' X G ρ n (some .int) (some (.int rE)) (RT t u w v x) mE) : ∀ (k : Nat) (v1 : Int32) (v2 : Int32) (v3 : Int32) (m : Mm), f_X7_endOfRun_L5 k v1 v2 v3 m = some (rE, mE) → J X G ρ n 4 5 [(0, .ref 1), (1, .int v1), (2, .int v2), (3, .int v3)] [] (RT t u w v x) m := by
  intro k
  induction k with
  | zero => intro _ _ _ _ h; rw [f_X7_endOfRun_L5] at h; cases h
  | succ k ih =>
    intro v1 v2 v3 m h
    rw [f_X7_endOfRun_L5] at h
    refine J_iload_n hX dX7_endOfRun_5 rfl 3 rfl ?_
    refine J_aload_n hX dX7_endOfRun_6 rfl 0 rfl ?_
    refine J_getI hX dX7_endOfRun_7 fl_RX7_15 (ltn ltc_1 hn) lo_1 rfl ?_
    refine J_icmp_ge hX 39 dX7_endOfRun_10 (by decide) h (fun c h => ?_) (fun c h => ?_)
    · refine J_aload_n hX dX7_endOfRun_13 rfl 0 rfl ?_
      refine J_getR hX dX7_endOfRun_14 fl_RX7_9 (ltn ltc_1 hn) lo_1 rfl (rt_1_0 _ _ _ _ _) ?_
      refine J_iload_n hX dX7_endOfRun_17 rfl 3 rfl ?_
      refine J_caload hX dX7_endOfRun_18 (ltn ltc_2 hn) lay_2 h (fun h => ?_)
      refine J_iload_n hX dX7_endOfRun_19 rfl 1 rfl ?_
      refine J_icmp_lt hX 39 dX7_endOfRun_20 (by decide) h (fun c h => ?_) (fun c h => ?_)
      · refine J_iload_n hX dX7_endOfRun_39 rfl 3 rfl ?_
        exact J_ireturn hX dX7_endOfRun_40 h hF rfl
      · refine J_aload_n hX dX7_endOfRun_23 rfl 0 rfl ?_
        refine J_getR hX dX7_endOfRun_24 fl_RX7_9 (ltn ltc_1 hn) lo_1 rfl (rt_1_0 _ _ _ _ _) ?_
        refine J_iload_n hX dX7_endOfRun_27 rfl 3 rfl ?_
        refine J_caload hX dX7_endOfRun_28 (ltn ltc_2 hn) lay_2 h (fun h => ?_)
        refine J_iload_n hX dX7_endOfRun_29 rfl 2 rfl ?_
        refine J_icmp_gt hX 39 dX7_endOfRun_30 (by decide) h (fun c h => ?_) (fun c h => ?_)
        · refine J_iload_n hX dX7_endOfRun_39 rfl 3 rfl ?_
          exact J_ireturn hX dX7_endOfRun_40 h hF rfl
        · refine J_iinc hX (v3 + (1 : Int32)) [(3, .int (v3 + (1 : Int32))), (0, .ref 1), (1, .int v1), (2, .int v2)] dX7_endOfRun_33 3 rfl (congrArg (fun z => v3 + z) ic_1) (by decide) rfl ?_
          refine J_goto hX 5 dX7_endOfRun_36 (by decide) ?_
          refine J_sub [(0, .ref 1), (1, .int v1), (2, .int v2), (3, .int (v3 + (1 : Int32)))] [1, 2, 3, 0] rfl ?_
          exact ih v1 v2 (v3 + (1 : Int32)) m h
    · refine J_iload_n hX dX7_endOfRun_39 rfl 3 rfl ?_
      exact J_ireturn hX dX7_endOfRun_40 h hF rfl
theorem t_X7_endOfRun {X : XX} {G : GG} {ρ : Nat → Nat} {n t u w v : Nat} {x : Option Nat} {d : Nat} (hX : Ok X G ρ cX7_endOfRun 4 RX7 d) (hd0 : 0 ≤ d) (hn : 126 ≤ n) {rE : Int32} {mE : Mm} (hF : Fin' X G ρ n (some .int) (some (.int rE)) (RT t u w v x) mE) {x1 : Int32} {x2 : Int32} {m : Mm} (h : f_X7_endOfRun x1 x2 m = some (rE, mE)) : J X G ρ n 4 0 [(0, .ref 1), (1, .int x1), (2, .int x2)] [] (RT t u w v x) m := by
  unfold f_X7_endOfRun at h
  refine J_aload_n hX dX7_endOfRun_0 rfl 0 rfl ?_
  refine J_getI hX dX7_endOfRun_1 fl_RX7_28 (ltn ltc_1 hn) lo_1 rfl ?_
  refine J_istore_n hX [(3, .int (gI m 1 3)), (0, .ref 1), (1, .int x1), (2, .int x2)] dX7_endOfRun_4 rfl (by decide) rfl ?_
  refine J_sub [(0, .ref 1), (1, .int x1), (2, .int x2), (3, .int (gI m 1 3))] [1, 2, 3, 0] rfl ?_
  exact t_X7_endOfRun_L5 hX hd0 hn hF FU x1 x2 (gI m 1 3)  m h
theorem c_X7_endOfRun {G : GG} {l : Launch} {ρ : Nat → Nat} {n t u w v : Nat} {x : Option Nat} (hn : 126 ≤ n) {x1 : Int32} {x2 : Int32} {m : Mm} {rE : Int32} {mE : Mm} (h : f_X7_endOfRun x1 x2 m = some (rE, mE)) : CT G l yX7_endOfRun cX7_endOfRun 4 (some .int) 0 0 0 ρ n (RT t u w v x) [.ref 1, .int x1, .int x2] m (some (.int rE)) (RT t u w v x) mE := ct_of_J (by decide) rfl (Nat.le_of_ble_eq_true rfl) (fun X hX e1 e2 e3 e4 hQ hr hl => t_X7_endOfRun hX (Nat.le_refl _) hn ⟨by rw [hQ, e3, e4], hr, hl⟩ h)
theorem t_X7_readNumber_L5 {X : XX} {G : GG} {ρ : Nat → Nat} {n t u w v : Nat} {x : Option Nat} {d : Nat} (hX : Ok X G ρ cX7_readNumber 2 RX7 d) (hd0 : 0 ≤ d) (hn : 126 ≤ n) {mE : Mm} (hF : Fin' X G ρ n none none (RT t u w v x) mE) : ∀ (k : Nat) (v1 : Int32) (m : Mm), f_X7_readNumber_L5 k v1 m = some mE → J X G ρ n 2 5 [(0, .ref 1), (1, .int v1)] [] (RT t u w v x) m := by
  intro k
  induction k with
  | zero => intro _ _ h; rw [f_X7_readNumber_L5] at h; cases h
  | succ k ih =>
    intro v1 m h
    rw [f_X7_readNumber_L5] at h
    refine J_iload_n hX dX7_readNumber_5 rfl 1 rfl ?_
    refine J_aload_n hX dX7_readNumber_6 rfl 0 rfl ?_
    refine J_getI hX dX7_readNumber_7 fl_RX7_22 (ltn ltc_1 hn) lo_1 rfl ?_
    refine J_icmp_ge hX 48 dX7_readNumber_10 (by decide) h (fun c h => ?_) (fun c h => ?_)
    · refine J_aload_n hX dX7_readNumber_13 rfl 0 rfl ?_
      refine J_getI hX dX7_readNumber_14 fl_RX7_34 (ltn ltc_1 hn) lo_1 rfl ?_
      refine J_iconst hX (3 : Int32) dX7_readNumber_17 ic_3 ?_
      refine J_icmp_ne hX 48 dX7_readNumber_18 (by decide) h (fun c h => ?_) (fun c h => ?_)
      · refine J_aload_n hX dX7_readNumber_21 rfl 0 rfl ?_
        refine J_aload_n hX dX7_readNumber_22 rfl 0 rfl ?_
        refine J_getI hX dX7_readNumber_23 fl_RX7_31 (ltn ltc_1 hn) lo_1 rfl ?_
        refine J_bipush hX (10 : Int32) dX7_readNumber_26 (by decide) ?_
        refine J_imul hX dX7_readNumber_28 ?_
        refine J_aload_n hX dX7_readNumber_29 rfl 0 rfl ?_
        refine J_getR hX dX7_readNumber_30 fl_RX7_9 (ltn ltc_1 hn) lo_1 rfl (rt_1_0 _ _ _ _ _) ?_
        refine J_iload_n hX dX7_readNumber_33 rfl 1 rfl ?_
        refine J_caload hX dX7_readNumber_34 (ltn ltc_2 hn) lay_2 h (fun h => ?_)
        refine J_iadd hX dX7_readNumber_35 ?_
        refine J_bipush hX (48 : Int32) dX7_readNumber_36 (by decide) ?_
        refine J_isub hX dX7_readNumber_38 ?_
        refine J_putI hX dX7_readNumber_39 pl_RX7_31 (ltn ltc_1 hn) lo_1 rfl rfl rfl h (fun m1 h => ?_)
        refine J_iinc hX (v1 + (1 : Int32)) [(1, .int (v1 + (1 : Int32))), (0, .ref 1)] dX7_readNumber_42 1 rfl (congrArg (fun z => v1 + z) ic_1) (by decide) rfl ?_
        refine J_goto hX 5 dX7_readNumber_45 (by decide) ?_
        refine J_sub [(0, .ref 1), (1, .int (v1 + (1 : Int32)))] [1, 0] rfl ?_
        exact ih (v1 + (1 : Int32)) m1 h
      · exact J_return hX dX7_readNumber_48 h hF
    · exact J_return hX dX7_readNumber_48 h hF
theorem t_X7_readNumber {X : XX} {G : GG} {ρ : Nat → Nat} {n t u w v : Nat} {x : Option Nat} {d : Nat} (hX : Ok X G ρ cX7_readNumber 2 RX7 d) (hd0 : 0 ≤ d) (hn : 126 ≤ n) {mE : Mm} (hF : Fin' X G ρ n none none (RT t u w v x) mE) {m : Mm} (h : f_X7_readNumber m = some mE) : J X G ρ n 2 0 [(0, .ref 1)] [] (RT t u w v x) m := by
  unfold f_X7_readNumber at h
  refine J_aload_n hX dX7_readNumber_0 rfl 0 rfl ?_
  refine J_getI hX dX7_readNumber_1 fl_RX7_28 (ltn ltc_1 hn) lo_1 rfl ?_
  refine J_istore_n hX [(1, .int (gI m 1 3)), (0, .ref 1)] dX7_readNumber_4 rfl (by decide) rfl ?_
  refine J_sub [(0, .ref 1), (1, .int (gI m 1 3))] [1, 0] rfl ?_
  exact t_X7_readNumber_L5 hX hd0 hn hF FU (gI m 1 3)  m h
theorem c_X7_readNumber {G : GG} {l : Launch} {ρ : Nat → Nat} {n t u w v : Nat} {x : Option Nat} (hn : 126 ≤ n) {m : Mm} {mE : Mm} (h : f_X7_readNumber m = some mE) : CT G l yX7_readNumber cX7_readNumber 2 none 0 0 0 ρ n (RT t u w v x) [.ref 1] m none (RT t u w v x) mE := ct_of_J (by decide) rfl (Nat.le_of_ble_eq_true rfl) (fun X hX e1 e2 e3 e4 hQ hr hl => t_X7_readNumber hX (Nat.le_refl _) hn ⟨by rw [hQ, e3, e4], hr, hl⟩ h)
theorem t_J0_indexOf_0f7a4 {X : XX} {G : GG} {ρ : Nat → Nat} {n t u w v : Nat} {x : Option Nat} {d : Nat} {a : Nat} (hX : Ok X G ρ cJ0_indexOf_0f7a4 2 RJ0 d) (hd0 : 3 ≤ d) (hn : 126 ≤ n) (ha : isTx a) {rE : Int32} {mE : Mm} (hF : Fin' X G ρ n (some .int) (some (.int rE)) (RT t u w v x) mE) {x1 : Int32} {m : Mm} (h : f_J0_indexOf_0f7a4 a x1 m = some (rE, mE)) : J X G ρ n 2 0 [(0, .ref a), (1, .int x1)] [] (RT t u w v x) m := by
  unfold f_J0_indexOf_0f7a4 at h
  refine J_aload_n hX dJ0_indexOf_0f7a4_0 rfl 0 rfl ?_
  refine J_iload_n hX dJ0_indexOf_0f7a4_1 rfl 1 rfl ?_
  refine J_iconst hX (0 : Int32) dJ0_indexOf_0f7a4_2 ic_0 ?_
  obtain ⟨r2, m1, h0, h⟩ := bd2_some h
  refine J_callTi (As := [.int x1, .int (0 : Int32)]) (st := []) hX dJ0_indexOf_0f7a4_3 cw_RJ0_633 (by omega) (c_J0_indexOf_7cf53 hn ha h0) ha rfl rfl (Nat.le_of_ble_eq_true rfl) ?_
  clear h0
  exact J_ireturn hX dJ0_indexOf_0f7a4_6 h hF rfl
theorem c_J0_indexOf_0f7a4 {G : GG} {l : Launch} {ρ : Nat → Nat} {n t u w v : Nat} {x : Option Nat} (hn : 126 ≤ n) {a : Nat} (ha : isTx a) {x1 : Int32} {m : Mm} {rE : Int32} {mE : Mm} (h : f_J0_indexOf_0f7a4 a x1 m = some (rE, mE)) : CT G l yJ0_indexOf_0f7a4 cJ0_indexOf_0f7a4 2 (some .int) 3 0 0 ρ n (RT t u w v x) [.ref a, .int x1] m (some (.int rE)) (RT t u w v x) mE := ct_of_J (by decide +kernel) rfl (Nat.le_of_ble_eq_true rfl) (fun X hX e1 e2 e3 e4 hQ hr hl => t_J0_indexOf_0f7a4 hX (Nat.le_refl _) hn ha ⟨by rw [hQ, e3, e4], hr, hl⟩ h)
theorem t_X7_advance_J198 {X : XX} {G : GG} {ρ : Nat → Nat} {n t u w v : Nat} {x : Option Nat} {d : Nat} (hX : Ok X G ρ cX7_advance 2 RX7 d) (hd0 : 4 ≤ d) (hn : 126 ≤ n) {mE : Mm} (hF : Fin' X G ρ n none none (RT t u w v x) mE) (v1 : Int32) (m : Mm) (h : f_X7_advance_J198 v1 m = some mE) : J X G ρ n 2 198 [(0, .ref 1), (1, .int v1)] [] (RT t u w v x) m := by
  unfold f_X7_advance_J198 at h
  refine J_aload_n hX dX7_advance_198 rfl 0 rfl ?_
  refine J_iload_n hX dX7_advance_199 rfl 1 rfl ?_
  refine J_iconst hX (1 : Int32) dX7_advance_200 ic_1 ?_
  refine J_iadd hX dX7_advance_201 ?_
  refine J_putI hX dX7_advance_202 pl_RX7_22 (ltn ltc_1 hn) lo_1 rfl rfl rfl h (fun m3 h => ?_)
  refine J_aload_n hX dX7_advance_205 rfl 0 rfl ?_
  refine J_ldcS hX (k := 21) dX7_advance_206 rfl ?_
  refine J_aload_n hX dX7_advance_208 rfl 0 rfl ?_
  refine J_getR hX dX7_advance_209 fl_RX7_9 (ltn ltc_1 hn) lo_1 rfl (rt_1_0 _ _ _ _ _) ?_
  refine J_iload_n hX dX7_advance_212 rfl 1 rfl ?_
  refine J_caload hX dX7_advance_213 (ltn ltc_2 hn) lay_2 h (fun h => ?_)
  obtain ⟨r5, m4, h0, h⟩ := bd2_some h
  refine J_callTi (As := [.int (gI m3 2 (ix v1))]) (st := [.ref 1]) hX dX7_advance_214 cw_RX7_46 (by omega) (c_J0_indexOf_0f7a4 hn p_isTx_1021 h0) p_isTx_1021 rfl rfl (Nat.le_of_ble_eq_true rfl) ?_
  clear h0
  refine J_if_lt hX 224 dX7_advance_217 (by decide) h (fun c h => ?_) (fun c h => ?_)
  · refine J_iconst hX (1 : Int32) dX7_advance_224 ic_1 ?_
    refine J_putI hX dX7_advance_225 pl_RX7_34 (ltn ltc_1 hn) lo_1 rfl rfl rfl h (fun m6 h => ?_)
    exact J_return hX dX7_advance_228 h hF
  · refine J_iconst hX (4 : Int32) dX7_advance_220 ic_4 ?_
    refine J_goto hX 225 dX7_advance_221 (by decide) ?_
    refine J_putI hX dX7_advance_225 pl_RX7_34 (ltn ltc_1 hn) lo_1 rfl rfl rfl h (fun m7 h => ?_)
    exact J_return hX dX7_advance_228 h hF
theorem t_X7_advance_J135 {X : XX} {G : GG} {ρ : Nat → Nat} {n t u w v : Nat} {x : Option Nat} {d : Nat} (hX : Ok X G ρ cX7_advance 2 RX7 d) (hd0 : 4 ≤ d) (hn : 126 ≤ n) {mE : Mm} (hF : Fin' X G ρ n none none (RT t u w v x) mE) (v1 : Int32) (m : Mm) (h : f_X7_advance_J135 v1 m = some mE) : J X G ρ n 2 135 [(0, .ref 1), (1, .int v1)] [] (RT t u w v x) m := by
  unfold f_X7_advance_J135 at h
  refine J_aload_n hX dX7_advance_135 rfl 0 rfl ?_
  refine J_getR hX dX7_advance_136 fl_RX7_9 (ltn ltc_1 hn) lo_1 rfl (rt_1_0 _ _ _ _ _) ?_
  refine J_iload_n hX dX7_advance_139 rfl 1 rfl ?_
  refine J_caload hX dX7_advance_140 (ltn ltc_2 hn) lay_2 h (fun h => ?_)
  refine J_bipush hX (48 : Int32) dX7_advance_141 (by decide) ?_
  refine J_icmp_lt hX 198 dX7_advance_143 (by decide) h (fun c h => ?_) (fun c h => ?_)
  · exact t_X7_advance_J198 hX hd0 hn hF v1  m h
  · refine J_aload_n hX dX7_advance_146 rfl 0 rfl ?_
    refine J_getR hX dX7_advance_147 fl_RX7_9 (ltn ltc_1 hn) lo_1 rfl (rt_1_0 _ _ _ _ _) ?_
    refine J_iload_n hX dX7_advance_150 rfl 1 rfl ?_
    refine J_caload hX dX7_advance_151 (ltn ltc_2 hn) lay_2 h (fun h => ?_)
    refine J_bipush hX (57 : Int32) dX7_advance_152 (by decide) ?_
    refine J_icmp_gt hX 198 dX7_advance_154 (by decide) h (fun c h => ?_) (fun c h => ?_)
    · exact t_X7_advance_J198 hX hd0 hn hF v1  m h
    · refine J_aload_n hX dX7_advance_157 rfl 0 rfl ?_
      refine J_aload_n hX dX7_advance_158 rfl 0 rfl ?_
      refine J_bipush hX (48 : Int32) dX7_advance_159 (by decide) ?_
      refine J_bipush hX (57 : Int32) dX7_advance_161 (by decide) ?_
      obtain ⟨r9, m8, h0, h⟩ := bd2_some h
      refine J_callVi (As := [.int (48 : Int32), .int (57 : Int32)]) (st := [.ref 1]) hX dX7_advance_163 cw_RX7_37 (by omega) (c_X7_endOfRun hn  h0) (ltn ltc_1 hn) lo_1 (by decide) rfl rfl rfl (Nat.le_of_ble_eq_true rfl) ?_
      clear h0
      refine J_putI hX dX7_advance_166 pl_RX7_22 (ltn ltc_1 hn) lo_1 rfl rfl rfl h (fun m10 h => ?_)
      refine J_aload_n hX dX7_advance_169 rfl 0 rfl ?_
      refine J_aload_n hX dX7_advance_170 rfl 0 rfl ?_
      refine J_getI hX dX7_advance_171 fl_RX7_22 (ltn ltc_1 hn) lo_1 rfl ?_
      refine J_aload_n hX dX7_advance_174 rfl 0 rfl ?_
      refine J_getI hX dX7_advance_175 fl_RX7_28 (ltn ltc_1 hn) lo_1 rfl ?_
      refine J_isub hX dX7_advance_178 ?_
      refine J_iconst hX (4 : Int32) dX7_advance_179 ic_4 ?_
      refine J_icmp_gt hX 187 dX7_advance_180 (by decide) h (fun c h => ?_) (fun c h => ?_)
      · refine J_iconst hX (1 : Int32) dX7_advance_187 ic_1 ?_
        refine J_putI hX dX7_advance_188 pl_RX7_34 (ltn ltc_1 hn) lo_1 rfl rfl rfl h (fun m11 h => ?_)
        refine J_aload_n hX dX7_advance_191 rfl 0 rfl ?_
        obtain ⟨m12, h0, h⟩ := bd1_some h
        refine J_callVv (As := []) (st := []) hX dX7_advance_192 cw_RX7_41 (by omega) (c_X7_readNumber hn  h0) (ltn ltc_1 hn) lo_1 (by decide) rfl rfl rfl (Nat.le_of_ble_eq_true rfl) ?_
        clear h0
        refine J_goto hX 228 dX7_advance_195 (by decide) ?_
        exact J_return hX dX7_advance_228 h hF
      · refine J_iconst hX (3 : Int32) dX7_advance_183 ic_3 ?_
        refine J_goto hX 188 dX7_advance_184 (by decide) ?_
        refine J_putI hX dX7_advance_188 pl_RX7_34 (ltn ltc_1 hn) lo_1 rfl rfl rfl h (fun m13 h => ?_)
        refine J_aload_n hX dX7_advance_191 rfl 0 rfl ?_
        obtain ⟨m14, h0, h⟩ := bd1_some h
        refine J_callVv (As := []) (st := []) hX dX7_advance_192 cw_RX7_41 (by omega) (c_X7_readNumber hn  h0) (ltn ltc_1 hn) lo_1 (by decide) rfl rfl rfl (Nat.le_of_ble_eq_true rfl) ?_
        clear h0
        refine J_goto hX 228 dX7_advance_195 (by decide) ?_
        exact J_return hX dX7_advance_228 h hF
theorem t_X7_advance_J41 {X : XX} {G : GG} {ρ : Nat → Nat} {n t u w v : Nat} {x : Option Nat} {d : Nat} (hX : Ok X G ρ cX7_advance 2 RX7 d) (hd0 : 4 ≤ d) (hn : 126 ≤ n) {mE : Mm} (hF : Fin' X G ρ n none none (RT t u w v x) mE) (v1 : Int32) (m : Mm) (h : f_X7_advance_J41 v1 m = some mE) : J X G ρ n 2 41 [(0, .ref 1), (1, .int v1)] [] (RT t u w v x) m := by
  unfold f_X7_advance_J41 at h
  refine J_aload_n hX dX7_advance_41 rfl 0 rfl ?_
  refine J_iload_n hX dX7_advance_42 rfl 1 rfl ?_
  refine J_putI hX dX7_advance_43 pl_RX7_28 (ltn ltc_1 hn) lo_1 rfl rfl rfl h (fun m1 h => ?_)
  refine J_aload_n hX dX7_advance_46 rfl 0 rfl ?_
  refine J_iconst hX (0 : Int32) dX7_advance_47 ic_0 ?_
  refine J_putI hX dX7_advance_48 pl_RX7_31 (ltn ltc_1 hn) lo_1 rfl rfl rfl h (fun m2 h => ?_)
  refine J_iload_n hX dX7_advance_51 rfl 1 rfl ?_
  refine J_aload_n hX dX7_advance_52 rfl 0 rfl ?_
  refine J_getI hX dX7_advance_53 fl_RX7_15 (ltn ltc_1 hn) lo_1 rfl ?_
  refine J_icmp_lt hX 75 dX7_advance_56 (by decide) h (fun c h => ?_) (fun c h => ?_)
  · refine J_aload_n hX dX7_advance_75 rfl 0 rfl ?_
    refine J_getR hX dX7_advance_76 fl_RX7_9 (ltn ltc_1 hn) lo_1 rfl (rt_1_0 _ _ _ _ _) ?_
    refine J_iload_n hX dX7_advance_79 rfl 1 rfl ?_
    refine J_caload hX dX7_advance_80 (ltn ltc_2 hn) lay_2 h (fun h => ?_)
    refine J_bipush hX (97 : Int32) dX7_advance_81 (by decide) ?_
    refine J_icmp_lt hX 135 dX7_advance_83 (by decide) h (fun c h => ?_) (fun c h => ?_)
    · exact t_X7_advance_J135 hX hd0 hn hF v1  m2 h
    · refine J_aload_n hX dX7_advance_86 rfl 0 rfl ?_
      refine J_getR hX dX7_advance_87 fl_RX7_9 (ltn ltc_1 hn) lo_1 rfl (rt_1_0 _ _ _ _ _) ?_
      refine J_iload_n hX dX7_advance_90 rfl 1 rfl ?_
      refine J_caload hX dX7_advance_91 (ltn ltc_2 hn) lay_2 h (fun h => ?_)
      refine J_bipush hX (122 : Int32) dX7_advance_92 (by decide) ?_
      refine J_icmp_gt hX 135 dX7_advance_94 (by decide) h (fun c h => ?_) (fun c h => ?_)
      · exact t_X7_advance_J135 hX hd0 hn hF v1  m2 h
      · refine J_aload_n hX dX7_advance_97 rfl 0 rfl ?_
        refine J_aload_n hX dX7_advance_98 rfl 0 rfl ?_
        refine J_bipush hX (97 : Int32) dX7_advance_99 (by decide) ?_
        refine J_bipush hX (122 : Int32) dX7_advance_101 (by decide) ?_
        obtain ⟨r16, m15, h0, h⟩ := bd2_some h
        refine J_callVi (As := [.int (97 : Int32), .int (122 : Int32)]) (st := [.ref 1]) hX dX7_advance_103 cw_RX7_37 (by omega) (c_X7_endOfRun hn  h0) (ltn ltc_1 hn) lo_1 (by decide) rfl rfl rfl (Nat.le_of_ble_eq_true rfl) ?_
        clear h0
        refine J_putI hX dX7_advance_106 pl_RX7_22 (ltn ltc_1 hn) lo_1 rfl rfl rfl h (fun m17 h => ?_)
        refine J_aload_n hX dX7_advance_109 rfl 0 rfl ?_
        refine J_aload_n hX dX7_advance_110 rfl 0 rfl ?_
        refine J_getI hX dX7_advance_111 fl_RX7_22 (ltn ltc_1 hn) lo_1 rfl ?_
        refine J_aload_n hX dX7_advance_114 rfl 0 rfl ?_
        refine J_getI hX dX7_advance_115 fl_RX7_28 (ltn ltc_1 hn) lo_1 rfl ?_
        refine J_isub hX dX7_advance_118 ?_
        refine J_bipush hX (8 : Int32) dX7_advance_119 (by decide) ?_
        refine J_icmp_gt hX 128 dX7_advance_121 (by decide) h (fun c h => ?_) (fun c h => ?_)
        · refine J_iconst hX (1 : Int32) dX7_advance_128 ic_1 ?_
          refine J_putI hX dX7_advance_129 pl_RX7_34 (ltn ltc_1 hn) lo_1 rfl rfl rfl h (fun m18 h => ?_)
          refine J_goto hX 228 dX7_advance_132 (by decide) ?_
          exact J_return hX dX7_advance_228 h hF
        · refine J_iconst hX (2 : Int32) dX7_advance_124 ic_2 ?_
          refine J_goto hX 129 dX7_advance_125 (by decide) ?_
          refine J_putI hX dX7_advance_129 pl_RX7_34 (ltn ltc_1 hn) lo_1 rfl rfl rfl h (fun m19 h => ?_)
          refine J_goto hX 228 dX7_advance_132 (by decide) ?_
          exact J_return hX dX7_advance_228 h hF
  · refine J_aload_n hX dX7_advance_59 rfl 0 rfl ?_
    refine J_iconst hX (0 : Int32) dX7_advance_60 ic_0 ?_
    refine J_putI hX dX7_advance_61 pl_RX7_34 (ltn ltc_1 hn) lo_1 rfl rfl rfl h (fun m20 h => ?_)
    refine J_aload_n hX dX7_advance_64 rfl 0 rfl ?_
    refine J_aload_n hX dX7_advance_65 rfl 0 rfl ?_
    refine J_getI hX dX7_advance_66 fl_RX7_15 (ltn ltc_1 hn) lo_1 rfl ?_
    refine J_putI hX dX7_advance_69 pl_RX7_22 (ltn ltc_1 hn) lo_1 rfl rfl rfl h (fun m21 h => ?_)
    refine J_goto hX 228 dX7_advance_72 (by decide) ?_
    exact J_return hX dX7_advance_228 h hF
theorem t_X7_advance_L5 {X : XX} {G : GG} {ρ : Nat → Nat} {n t u w v : Nat} {x : Option Nat} {d : Nat} (hX : Ok X G ρ cX7_advance 2 RX7 d) (hd0 : 4 ≤ d) (hn : 126 ≤ n) {mE : Mm} (hF : Fin' X G ρ n none none (RT t u w v x) mE) : ∀ (k : Nat) (v1 : Int32) (m : Mm), f_X7_advance_L5 k v1 m = some mE → J X G ρ n 2 5 [(0, .ref 1), (1, .int v1)] [] (RT t u w v x) m := by
  intro k
  induction k with
  | zero => intro _ _ h; rw [f_X7_advance_L5] at h; cases h
  | succ k ih =>
    intro v1 m h
    rw [f_X7_advance_L5] at h
    refine J_iload_n hX dX7_advance_5 rfl 1 rfl ?_
    refine J_aload_n hX dX7_advance_6 rfl 0 rfl ?_
    refine J_getI hX dX7_advance_7 fl_RX7_15 (ltn ltc_1 hn) lo_1 rfl ?_
    refine J_icmp_ge hX 41 dX7_advance_10 (by decide) h (fun c h => ?_) (fun c h => ?_)
    · refine J_aload_n hX dX7_advance_13 rfl 0 rfl ?_
      refine J_getR hX dX7_advance_14 fl_RX7_9 (ltn ltc_1 hn) lo_1 rfl (rt_1_0 _ _ _ _ _) ?_
      refine J_iload_n hX dX7_advance_17 rfl 1 rfl ?_
      refine J_caload hX dX7_advance_18 (ltn ltc_2 hn) lay_2 h (fun h => ?_)
      refine J_bipush hX (10 : Int32) dX7_advance_19 (by decide) ?_
      refine J_icmp_eq hX 35 dX7_advance_21 (by decide) h (fun c h => ?_) (fun c h => ?_)
      · refine J_iinc hX (v1 + (1 : Int32)) [(1, .int (v1 + (1 : Int32))), (0, .ref 1)] dX7_advance_35 1 rfl (congrArg (fun z => v1 + z) ic_1) (by decide) rfl ?_
        refine J_goto hX 5 dX7_advance_38 (by decide) ?_
        refine J_sub [(0, .ref 1), (1, .int (v1 + (1 : Int32)))] [1, 0] rfl ?_
        exact ih (v1 + (1 : Int32)) m h
      · refine J_aload_n hX dX7_advance_24 rfl 0 rfl ?_
        refine J_getR hX dX7_advance_25 fl_RX7_9 (ltn ltc_1 hn) lo_1 rfl (rt_1_0 _ _ _ _ _) ?_
        refine J_iload_n hX dX7_advance_28 rfl 1 rfl ?_
        refine J_caload hX dX7_advance_29 (ltn ltc_2 hn) lay_2 h (fun h => ?_)
        refine J_bipush hX (32 : Int32) dX7_advance_30 (by decide) ?_
        refine J_icmp_ne hX 41 dX7_advance_32 (by decide) h (fun c h => ?_) (fun c h => ?_)
        · refine J_iinc hX (v1 + (1 : Int32)) [(1, .int (v1 + (1 : Int32))), (0, .ref 1)] dX7_advance_35 1 rfl (congrArg (fun z => v1 + z) ic_1) (by decide) rfl ?_
          refine J_goto hX 5 dX7_advance_38 (by decide) ?_
          refine J_sub [(0, .ref 1), (1, .int (v1 + (1 : Int32)))] [1, 0] rfl ?_
          exact ih (v1 + (1 : Int32)) m h
        · exact t_X7_advance_J41 hX hd0 hn hF v1  m h
    · exact t_X7_advance_J41 hX hd0 hn hF v1  m h
theorem t_X7_advance {X : XX} {G : GG} {ρ : Nat → Nat} {n t u w v : Nat} {x : Option Nat} {d : Nat} (hX : Ok X G ρ cX7_advance 2 RX7 d) (hd0 : 4 ≤ d) (hn : 126 ≤ n) {mE : Mm} (hF : Fin' X G ρ n none none (RT t u w v x) mE) {m : Mm} (h : f_X7_advance m = some mE) : J X G ρ n 2 0 [(0, .ref 1)] [] (RT t u w v x) m := by
  unfold f_X7_advance at h
  refine J_aload_n hX dX7_advance_0 rfl 0 rfl ?_
  refine J_getI hX dX7_advance_1 fl_RX7_22 (ltn ltc_1 hn) lo_1 rfl ?_
  refine J_istore_n hX [(1, .int (gI m 1 4)), (0, .ref 1)] dX7_advance_4 rfl (by decide) rfl ?_
  refine J_sub [(0, .ref 1), (1, .int (gI m 1 4))] [1, 0] rfl ?_
  exact t_X7_advance_L5 hX hd0 hn hF FU (gI m 1 4)  m h
theorem c_X7_advance {G : GG} {l : Launch} {ρ : Nat → Nat} {n t u w v : Nat} {x : Option Nat} (hn : 126 ≤ n) {m : Mm} {mE : Mm} (h : f_X7_advance m = some mE) : CT G l yX7_advance cX7_advance 2 none 4 0 0 ρ n (RT t u w v x) [.ref 1] m none (RT t u w v x) mE := ct_of_J (by decide) rfl (Nat.le_of_ble_eq_true rfl) (fun X hX e1 e2 e3 e4 hQ hr hl => t_X7_advance hX (Nat.le_refl _) hn ⟨by rw [hQ, e3, e4], hr, hl⟩ h)
theorem t_J1_charAt_3b067 {X : XX} {G : GG} {ρ : Nat → Nat} {n t u w v : Nat} {x : Option Nat} {d : Nat} {p0 : Nat} (hX : Ok X G ρ cJ1_charAt_3b067 2 RJ1 d) (hd0 : 2 ≤ d) (hn : 126 ≤ n) (hp0 : isTb p0) {rE : Int32} {mE : Mm} (hF : Fin' X G ρ n (some .char) (some (.int rE)) (RT t u w v x) mE) {x1 : Int32} {m : Mm} (h : f_J1_charAt_3b067 p0 x1 m = some (rE, mE)) : J X G ρ n 2 0 [(0, .ref p0), (1, .int x1)] [] (RT t u w v x) m := by
  unfold f_J1_charAt_3b067 at h
  refine J_iload_n hX dJ1_charAt_3b067_0 rfl 1 rfl ?_
  refine J_aload_n hX dJ1_charAt_3b067_1 rfl 0 rfl ?_
  refine J_txlen hX hp0 dJ1_charAt_3b067_2 ?_
  obtain ⟨gB, h⟩ := gd_some h
  refine J_callSv (As := [.int x1, .int (txl p0)]) (st := []) hX dJ1_charAt_3b067_3 cw_RJ1_9 (by omega) (c_J0_checkIndex_df160 gB) rfl rfl (Nat.le_of_ble_eq_true rfl) ?_
  refine J_aload_n hX dJ1_charAt_3b067_6 rfl 0 rfl ?_
  refine J_iload_n hX dJ1_charAt_3b067_7 rfl 1 rfl ?_
  refine J_txb hX hp0 dJ1_charAt_3b067_8 h (fun h => ?_)
  refine J_sipush hX (255 : Int32) dJ1_charAt_3b067_9 (by decide) ?_
  refine J_iand hX dJ1_charAt_3b067_12 ?_
  refine J_i2c hX dJ1_charAt_3b067_13 ?_
  exact J_ireturn hX dJ1_charAt_3b067_14 h hF (pk_nc _)
theorem c_J1_charAt_3b067 {G : GG} {l : Launch} {ρ : Nat → Nat} {n t u w v : Nat} {x : Option Nat} (hn : 126 ≤ n) {p0 : Nat} (hp0 : isTb p0) {x1 : Int32} {m : Mm} {rE : Int32} {mE : Mm} (h : f_J1_charAt_3b067 p0 x1 m = some (rE, mE)) : CT G l yJ1_charAt_3b067 cJ1_charAt_3b067 2 (some .char) 2 0 0 ρ n (RT t u w v x) [.ref p0, .int x1] m (some (.int rE)) (RT t u w v x) mE := ct_of_J (by decide +kernel) rfl (Nat.le_of_ble_eq_true rfl) (fun X hX e1 e2 e3 e4 hQ hr hl => t_J1_charAt_3b067 hX (Nat.le_refl _) hn hp0 ⟨by rw [hQ, e3, e4], hr, hl⟩ h)
theorem t_J0_charAt_5068e {X : XX} {G : GG} {ρ : Nat → Nat} {n t u w v : Nat} {x : Option Nat} {d : Nat} {a : Nat} (hX : Ok X G ρ cJ0_charAt_5068e 2 RJ0 d) (hd0 : 3 ≤ d) (hn : 126 ≤ n) (ha : isTx a) {rE : Int32} {mE : Mm} (hF : Fin' X G ρ n (some .char) (some (.int rE)) (RT t u w v x) mE) {x1 : Int32} {m : Mm} (h : f_J0_charAt_5068e a x1 m = some (rE, mE)) : J X G ρ n 2 0 [(0, .ref a), (1, .int x1)] [] (RT t u w v x) m := by
  unfold f_J0_charAt_5068e at h
  refine J_aload_n hX dJ0_charAt_5068e_0 rfl 0 rfl ?_
  obtain ⟨r2, m1, h0, h⟩ := bd2_some h
  refine J_callTi (As := []) (st := []) hX dJ0_charAt_5068e_1 cw_RJ0_492 (by omega) (c_J0_isLatin1_aae02 hn ha h0) ha rfl rfl (Nat.le_of_ble_eq_true rfl) ?_
  clear h0
  refine J_if_eq hX 16 dJ0_charAt_5068e_4 (by decide) h (fun c h => ?_) (fun c h => ?_)
  · refine J_aload_n hX dJ0_charAt_5068e_16 rfl 0 rfl ?_
    refine J_getTv hX ha dJ0_charAt_5068e_17 ft_RJ0_9 ?_
    refine J_iload_n hX dJ0_charAt_5068e_20 rfl 1 rfl ?_
    cases h
  · refine J_aload_n hX dJ0_charAt_5068e_7 rfl 0 rfl ?_
    refine J_getTv hX ha dJ0_charAt_5068e_8 ft_RJ0_9 ?_
    refine J_iload_n hX dJ0_charAt_5068e_11 rfl 1 rfl ?_
    obtain ⟨r4, m3, h0, h⟩ := bd2_some h
    refine J_callSi (As := [.ref (a + 1000), .int x1]) (st := []) hX dJ0_charAt_5068e_12 cw_RJ0_495 (by omega) (c_J1_charAt_3b067 hn (isTb_isTx ha) h0) rfl rfl (Nat.le_of_ble_eq_true rfl) ?_
    clear h0
    obtain ⟨gB, h⟩ := gd_some h
    exact J_ireturn hX dJ0_charAt_5068e_15 h hF (isC_nar gB)
theorem c_J0_charAt_5068e {G : GG} {l : Launch} {ρ : Nat → Nat} {n t u w v : Nat} {x : Option Nat} (hn : 126 ≤ n) {a : Nat} (ha : isTx a) {x1 : Int32} {m : Mm} {rE : Int32} {mE : Mm} (h : f_J0_charAt_5068e a x1 m = some (rE, mE)) : CT G l yJ0_charAt_5068e cJ0_charAt_5068e 2 (some .char) 3 0 0 ρ n (RT t u w v x) [.ref a, .int x1] m (some (.int rE)) (RT t u w v x) mE := ct_of_J (by decide +kernel) rfl (Nat.le_of_ble_eq_true rfl) (fun X hX e1 e2 e3 e4 hQ hr hl => t_J0_charAt_5068e hX (Nat.le_refl _) hn ha ⟨by rw [hQ, e3, e4], hr, hl⟩ h)
theorem t_X7_fail {X : XX} {G : GG} {ρ : Nat → Nat} {n t u w v : Nat} {x : Option Nat} {d : Nat} (hX : Ok X G ρ cX7_fail 2 RX7 d) (hd0 : 0 ≤ d) (hn : 126 ≤ n) {mE : Mm} (hF : Fin' X G ρ n none none (RT t u w v x) mE) {x1 : Int32} {m : Mm} (h : f_X7_fail x1 m = some mE) : J X G ρ n 2 0 [(0, .ref 1), (1, .int x1)] [] (RT t u w v x) m := by
  unfold f_X7_fail at h
  refine J_aload_n hX dX7_fail_0 rfl 0 rfl ?_
  refine J_getI hX dX7_fail_1 fl_RX7_19 (ltn ltc_1 hn) lo_1 rfl ?_
  refine J_if_ne hX 20 dX7_fail_4 (by decide) h (fun c h => ?_) (fun c h => ?_)
  · refine J_aload_n hX dX7_fail_7 rfl 0 rfl ?_
    refine J_iload_n hX dX7_fail_8 rfl 1 rfl ?_
    refine J_bipush hX (16 : Int32) dX7_fail_9 (by decide) ?_
    refine J_aload_n hX dX7_fail_11 rfl 0 rfl ?_
    refine J_getI hX dX7_fail_12 fl_RX7_28 (ltn ltc_1 hn) lo_1 rfl ?_
    refine J_imul hX dX7_fail_15 ?_
    refine J_iadd hX dX7_fail_16 ?_
    refine J_putI hX dX7_fail_17 pl_RX7_19 (ltn ltc_1 hn) lo_1 rfl rfl rfl h (fun m1 h => ?_)
    exact J_return hX dX7_fail_20 h hF
  · exact J_return hX dX7_fail_20 h hF
theorem c_X7_fail {G : GG} {l : Launch} {ρ : Nat → Nat} {n t u w v : Nat} {x : Option Nat} (hn : 126 ≤ n) {x1 : Int32} {m : Mm} {mE : Mm} (h : f_X7_fail x1 m = some mE) : CT G l yX7_fail cX7_fail 2 none 0 0 0 ρ n (RT t u w v x) [.ref 1, .int x1] m none (RT t u w v x) mE := ct_of_J (by decide) rfl (Nat.le_of_ble_eq_true rfl) (fun X hX e1 e2 e3 e4 hQ hr hl => t_X7_fail hX (Nat.le_refl _) hn ⟨by rw [hQ, e3, e4], hr, hl⟩ h)
theorem t_X7_isSign {X : XX} {G : GG} {ρ : Nat → Nat} {n t u w v : Nat} {x : Option Nat} {d : Nat} (hX : Ok X G ρ cX7_isSign 2 RX7 d) (hd0 : 0 ≤ d) (hn : 126 ≤ n) {rE : Int32} {mE : Mm} (hF : Fin' X G ρ n (some .boolean) (some (.int rE)) (RT t u w v x) mE) {x1 : Int32} {m : Mm} (h : f_X7_isSign x1 m = some (rE, mE)) : J X G ρ n 2 0 [(0, .ref 1), (1, .int x1)] [] (RT t u w v x) m := by
  unfold f_X7_isSign at h
  refine J_aload_n hX dX7_isSign_0 rfl 0 rfl ?_
  refine J_getI hX dX7_isSign_1 fl_RX7_34 (ltn ltc_1 hn) lo_1 rfl ?_
  refine J_iconst hX (4 : Int32) dX7_isSign_4 ic_4 ?_
  refine J_icmp_ne hX 25 dX7_isSign_5 (by decide) h (fun c h => ?_) (fun c h => ?_)
  · refine J_aload_n hX dX7_isSign_8 rfl 0 rfl ?_
    refine J_getR hX dX7_isSign_9 fl_RX7_9 (ltn ltc_1 hn) lo_1 rfl (rt_1_0 _ _ _ _ _) ?_
    refine J_aload_n hX dX7_isSign_12 rfl 0 rfl ?_
    refine J_getI hX dX7_isSign_13 fl_RX7_28 (ltn ltc_1 hn) lo_1 rfl ?_
    refine J_caload hX dX7_isSign_16 (ltn ltc_2 hn) lay_2 h (fun h => ?_)
    refine J_iload_n hX dX7_isSign_17 rfl 1 rfl ?_
    refine J_icmp_ne hX 25 dX7_isSign_18 (by decide) h (fun c h => ?_) (fun c h => ?_)
    · refine J_iconst hX (1 : Int32) dX7_isSign_21 ic_1 ?_
      refine J_goto hX 26 dX7_isSign_22 (by decide) ?_
      exact J_ireturn hX dX7_isSign_26 h hF narrow_b1
    · refine J_iconst hX (0 : Int32) dX7_isSign_25 ic_0 ?_
      exact J_ireturn hX dX7_isSign_26 h hF narrow_b0
  · refine J_iconst hX (0 : Int32) dX7_isSign_25 ic_0 ?_
    exact J_ireturn hX dX7_isSign_26 h hF narrow_b0
theorem c_X7_isSign {G : GG} {l : Launch} {ρ : Nat → Nat} {n t u w v : Nat} {x : Option Nat} (hn : 126 ≤ n) {x1 : Int32} {m : Mm} {rE : Int32} {mE : Mm} (h : f_X7_isSign x1 m = some (rE, mE)) : CT G l yX7_isSign cX7_isSign 2 (some .boolean) 0 0 0 ρ n (RT t u w v x) [.ref 1, .int x1] m (some (.int rE)) (RT t u w v x) mE := ct_of_J (by decide) rfl (Nat.le_of_ble_eq_true rfl) (fun X hX e1 e2 e3 e4 hQ hr hl => t_X7_isSign hX (Nat.le_refl _) hn ⟨by rw [hQ, e3, e4], hr, hl⟩ h)
theorem t_X7_numberWithin {X : XX} {G : GG} {ρ : Nat → Nat} {n t u w v : Nat} {x : Option Nat} {d : Nat} (hX : Ok X G ρ cX7_numberWithin 4 RX7 d) (hd0 : 5 ≤ d) (hn : 126 ≤ n) {rE : Int32} {mE : Mm} (hF : Fin' X G ρ n (some .int) (some (.int rE)) (RT t u w v x) mE) {x1 : Int32} {x2 : Int32} {m : Mm} (h : f_X7_numberWithin x1 x2 m = some (rE, mE)) : J X G ρ n 4 0 [(0, .ref 1), (1, .int x1), (2, .int x2)] [] (RT t u w v x) m := by
  unfold f_X7_numberWithin at h
  refine J_aload_n hX dX7_numberWithin_0 rfl 0 rfl ?_
  refine J_getI hX dX7_numberWithin_1 fl_RX7_19 (ltn ltc_1 hn) lo_1 rfl ?_
  refine J_if_eq hX 9 dX7_numberWithin_4 (by decide) h (fun c h => ?_) (fun c h => ?_)
  · refine J_aload_n hX dX7_numberWithin_9 rfl 0 rfl ?_
    refine J_getI hX dX7_numberWithin_10 fl_RX7_34 (ltn ltc_1 hn) lo_1 rfl ?_
    refine J_iconst hX (3 : Int32) dX7_numberWithin_13 ic_3 ?_
    refine J_icmp_eq hX 24 dX7_numberWithin_14 (by decide) h (fun c h => ?_) (fun c h => ?_)
    · refine J_aload_n hX dX7_numberWithin_24 rfl 0 rfl ?_
      refine J_getI hX dX7_numberWithin_25 fl_RX7_31 (ltn ltc_1 hn) lo_1 rfl ?_
      refine J_iload_n hX dX7_numberWithin_28 rfl 1 rfl ?_
      refine J_icmp_lt hX 40 dX7_numberWithin_29 (by decide) h (fun c h => ?_) (fun c h => ?_)
      · refine J_aload_n hX dX7_numberWithin_40 rfl 0 rfl ?_
        refine J_iconst hX (4 : Int32) dX7_numberWithin_41 ic_4 ?_
        obtain ⟨m1, h0, h⟩ := bd1_some h
        refine J_callVv (As := [.int (4 : Int32)]) (st := []) hX dX7_numberWithin_42 cw_RX7_63 (by omega) (c_X7_fail hn  h0) (ltn ltc_1 hn) lo_1 (by decide) rfl rfl rfl (Nat.le_of_ble_eq_true rfl) ?_
        clear h0
        refine J_iconst hX (0 : Int32) dX7_numberWithin_45 ic_0 ?_
        exact J_ireturn hX dX7_numberWithin_46 h hF rfl
      · refine J_aload_n hX dX7_numberWithin_32 rfl 0 rfl ?_
        refine J_getI hX dX7_numberWithin_33 fl_RX7_31 (ltn ltc_1 hn) lo_1 rfl ?_
        refine J_iload_n hX dX7_numberWithin_36 rfl 2 rfl ?_
        refine J_icmp_le hX 47 dX7_numberWithin_37 (by decide) h (fun c h => ?_) (fun c h => ?_)
        · refine J_aload_n hX dX7_numberWithin_40 rfl 0 rfl ?_
          refine J_iconst hX (4 : Int32) dX7_numberWithin_41 ic_4 ?_
          obtain ⟨m3, h0, h⟩ := bd1_some h
          refine J_callVv (As := [.int (4 : Int32)]) (st := []) hX dX7_numberWithin_42 cw_RX7_63 (by omega) (c_X7_fail hn  h0) (ltn ltc_1 hn) lo_1 (by decide) rfl rfl rfl (Nat.le_of_ble_eq_true rfl) ?_
          clear h0
          refine J_iconst hX (0 : Int32) dX7_numberWithin_45 ic_0 ?_
          exact J_ireturn hX dX7_numberWithin_46 h hF rfl
        · refine J_aload_n hX dX7_numberWithin_47 rfl 0 rfl ?_
          refine J_getI hX dX7_numberWithin_48 fl_RX7_31 (ltn ltc_1 hn) lo_1 rfl ?_
          refine J_istore_n hX [(3, .int (gI m 1 5)), (0, .ref 1), (1, .int x1), (2, .int x2)] dX7_numberWithin_51 rfl (by decide) rfl ?_
          refine J_aload_n hX dX7_numberWithin_52 rfl 1 rfl ?_
          obtain ⟨m2, h0, h⟩ := bd1_some h
          refine J_callVv (As := []) (st := []) hX dX7_numberWithin_53 cw_RX7_25 (by omega) (c_X7_advance hn  h0) (ltn ltc_1 hn) lo_1 (by decide) rfl rfl rfl (Nat.le_of_ble_eq_true rfl) ?_
          clear h0
          refine J_iload_n hX dX7_numberWithin_56 rfl 0 rfl ?_
          exact J_ireturn hX dX7_numberWithin_57 h hF rfl
    · refine J_aload_n hX dX7_numberWithin_17 rfl 0 rfl ?_
      refine J_iconst hX (1 : Int32) dX7_numberWithin_18 ic_1 ?_
      obtain ⟨m4, h0, h⟩ := bd1_some h
      refine J_callVv (As := [.int (1 : Int32)]) (st := []) hX dX7_numberWithin_19 cw_RX7_63 (by omega) (c_X7_fail hn  h0) (ltn ltc_1 hn) lo_1 (by decide) rfl rfl rfl (Nat.le_of_ble_eq_true rfl) ?_
      clear h0
      refine J_iconst hX (0 : Int32) dX7_numberWithin_22 ic_0 ?_
      exact J_ireturn hX dX7_numberWithin_23 h hF rfl
  · refine J_iconst hX (0 : Int32) dX7_numberWithin_7 ic_0 ?_
    exact J_ireturn hX dX7_numberWithin_8 h hF rfl
theorem c_X7_numberWithin {G : GG} {l : Launch} {ρ : Nat → Nat} {n t u w v : Nat} {x : Option Nat} (hn : 126 ≤ n) {x1 : Int32} {x2 : Int32} {m : Mm} {rE : Int32} {mE : Mm} (h : f_X7_numberWithin x1 x2 m = some (rE, mE)) : CT G l yX7_numberWithin cX7_numberWithin 4 (some .int) 5 0 0 ρ n (RT t u w v x) [.ref 1, .int x1, .int x2] m (some (.int rE)) (RT t u w v x) mE := ct_of_J (by decide) rfl (Nat.le_of_ble_eq_true rfl) (fun X hX e1 e2 e3 e4 hQ hr hl => t_X7_numberWithin hX (Nat.le_refl _) hn ⟨by rw [hQ, e3, e4], hr, hl⟩ h)
theorem t_X7_pass {X : XX} {G : GG} {ρ : Nat → Nat} {n t u w v : Nat} {x : Option Nat} {d : Nat} (hX : Ok X G ρ cX7_pass 2 RX7 d) (hd0 : 5 ≤ d) (hn : 126 ≤ n) {mE : Mm} (hF : Fin' X G ρ n none none (RT t u w v x) mE) {x1 : Int32} {m : Mm} (h : f_X7_pass x1 m = some mE) : J X G ρ n 2 0 [(0, .ref 1), (1, .int x1)] [] (RT t u w v x) m := by
  unfold f_X7_pass at h
  refine J_aload_n hX dX7_pass_0 rfl 0 rfl ?_
  refine J_getI hX dX7_pass_1 fl_RX7_19 (ltn ltc_1 hn) lo_1 rfl ?_
  refine J_if_eq hX 8 dX7_pass_4 (by decide) h (fun c h => ?_) (fun c h => ?_)
  · refine J_aload_n hX dX7_pass_8 rfl 0 rfl ?_
    refine J_iload_n hX dX7_pass_9 rfl 1 rfl ?_
    obtain ⟨r2, m1, h0, h⟩ := bd2_some h
    refine J_callVi (As := [.int x1]) (st := []) hX dX7_pass_10 cw_RX7_59 (by omega) (c_X7_isSign hn  h0) (ltn ltc_1 hn) lo_1 (by decide) rfl rfl rfl (Nat.le_of_ble_eq_true rfl) ?_
    clear h0
    refine J_if_eq hX 23 dX7_pass_13 (by decide) h (fun c h => ?_) (fun c h => ?_)
    · refine J_aload_n hX dX7_pass_23 rfl 0 rfl ?_
      refine J_iconst hX (1 : Int32) dX7_pass_24 ic_1 ?_
      obtain ⟨m3, h0, h⟩ := bd1_some h
      refine J_callVv (As := [.int (1 : Int32)]) (st := []) hX dX7_pass_25 cw_RX7_63 (by omega) (c_X7_fail hn  h0) (ltn ltc_1 hn) lo_1 (by decide) rfl rfl rfl (Nat.le_of_ble_eq_true rfl) ?_
      clear h0
      exact J_return hX dX7_pass_28 h hF
    · refine J_aload_n hX dX7_pass_16 rfl 0 rfl ?_
      obtain ⟨m4, h0, h⟩ := bd1_some h
      refine J_callVv (As := []) (st := []) hX dX7_pass_17 cw_RX7_25 (by omega) (c_X7_advance hn  h0) (ltn ltc_1 hn) lo_1 (by decide) rfl rfl rfl (Nat.le_of_ble_eq_true rfl) ?_
      clear h0
      refine J_goto hX 28 dX7_pass_20 (by decide) ?_
      exact J_return hX dX7_pass_28 h hF
  · exact J_return hX dX7_pass_7 h hF
theorem c_X7_pass {G : GG} {l : Launch} {ρ : Nat → Nat} {n t u w v : Nat} {x : Option Nat} (hn : 126 ≤ n) {x1 : Int32} {m : Mm} {mE : Mm} (h : f_X7_pass x1 m = some mE) : CT G l yX7_pass cX7_pass 2 none 5 0 0 ρ n (RT t u w v x) [.ref 1, .int x1] m none (RT t u w v x) mE := ct_of_J (by decide) rfl (Nat.le_of_ble_eq_true rfl) (fun X hX e1 e2 e3 e4 hQ hr hl => t_X7_pass hX (Nat.le_refl _) hn ⟨by rw [hQ, e3, e4], hr, hl⟩ h)
theorem t_X7_isWord_L28 {X : XX} {G : GG} {ρ : Nat → Nat} {n t u w v : Nat} {x : Option Nat} {d : Nat} {p1 : Nat} (hX : Ok X G ρ cX7_isWord 3 RX7 d) (hd0 : 4 ≤ d) (hn : 126 ≤ n) (hp1 : isTx p1) {rE : Int32} {mE : Mm} (hF : Fin' X G ρ n (some .boolean) (some (.int rE)) (RT t u w v x) mE) : ∀ (k : Nat) (v2 : Int32) (m : Mm), f_X7_isWord_L28 p1 k v2 m = some (rE, mE) → J X G ρ n 3 28 [(0, .ref 1), (1, .ref p1), (2, .int v2)] [] (RT t u w v x) m := by
  intro k
  induction k with
  | zero => intro _ _ h; rw [f_X7_isWord_L28] at h; cases h
  | succ k ih =>
    intro v2 m h
    rw [f_X7_isWord_L28] at h
    refine J_iload_n hX dX7_isWord_28 rfl 2 rfl ?_
    refine J_aload_n hX dX7_isWord_29 rfl 1 rfl ?_
    obtain ⟨r4, m3, h0, h⟩ := bd2_some h
    refine J_callTi (As := []) (st := [.int v2]) hX dX7_isWord_30 cw_RX7_52 (by omega) (c_J0_length_8abf5 hn hp1 h0) hp1 rfl rfl (Nat.le_of_ble_eq_true rfl) ?_
    clear h0
    refine J_icmp_ge hX 63 dX7_isWord_33 (by decide) h (fun c h => ?_) (fun c h => ?_)
    · refine J_aload_n hX dX7_isWord_36 rfl 0 rfl ?_
      refine J_getR hX dX7_isWord_37 fl_RX7_9 (ltn ltc_1 hn) lo_1 rfl (rt_1_0 _ _ _ _ _) ?_
      refine J_aload_n hX dX7_isWord_40 rfl 0 rfl ?_
      refine J_getI hX dX7_isWord_41 fl_RX7_28 (ltn ltc_1 hn) lo_1 rfl ?_
      refine J_iload_n hX dX7_isWord_44 rfl 2 rfl ?_
      refine J_iadd hX dX7_isWord_45 ?_
      refine J_caload hX dX7_isWord_46 (ltn ltc_2 hn) lay_2 h (fun h => ?_)
      refine J_aload_n hX dX7_isWord_47 rfl 1 rfl ?_
      refine J_iload_n hX dX7_isWord_48 rfl 2 rfl ?_
      obtain ⟨r6, m5, h0, h⟩ := bd2_some h
      refine J_callTi (As := [.int v2]) (st := [.int (gI m3 2 (ix ((gI m3 1 3) + v2)))]) hX dX7_isWord_49 cw_RX7_55 (by omega) (c_J0_charAt_5068e hn hp1 h0) hp1 rfl rfl (Nat.le_of_ble_eq_true rfl) ?_
      clear h0
      refine J_icmp_eq hX 57 dX7_isWord_52 (by decide) h (fun c h => ?_) (fun c h => ?_)
      · refine J_iinc hX (v2 + (1 : Int32)) [(2, .int (v2 + (1 : Int32))), (0, .ref 1), (1, .ref p1)] dX7_isWord_57 2 rfl (congrArg (fun z => v2 + z) ic_1) (by decide) rfl ?_
        refine J_goto hX 28 dX7_isWord_60 (by decide) ?_
        refine J_sub [(0, .ref 1), (1, .ref p1), (2, .int (v2 + (1 : Int32)))] [1, 2, 0] rfl ?_
        exact ih (v2 + (1 : Int32)) m5 h
      · refine J_iconst hX (0 : Int32) dX7_isWord_55 ic_0 ?_
        exact J_ireturn hX dX7_isWord_56 h hF narrow_b0
    · refine J_iconst hX (1 : Int32) dX7_isWord_63 ic_1 ?_
      exact J_ireturn hX dX7_isWord_64 h hF narrow_b1
theorem t_X7_isWord {X : XX} {G : GG} {ρ : Nat → Nat} {n t u w v : Nat} {x : Option Nat} {d : Nat} {p1 : Nat} (hX : Ok X G ρ cX7_isWord 3 RX7 d) (hd0 : 4 ≤ d) (hn : 126 ≤ n) (hp1 : isTx p1) {rE : Int32} {mE : Mm} (hF : Fin' X G ρ n (some .boolean) (some (.int rE)) (RT t u w v x) mE) {m : Mm} (h : f_X7_isWord p1 m = some (rE, mE)) : J X G ρ n 3 0 [(0, .ref 1), (1, .ref p1)] [] (RT t u w v x) m := by
  unfold f_X7_isWord at h
  refine J_aload_n hX dX7_isWord_0 rfl 0 rfl ?_
  refine J_getI hX dX7_isWord_1 fl_RX7_34 (ltn ltc_1 hn) lo_1 rfl ?_
  refine J_iconst hX (2 : Int32) dX7_isWord_4 ic_2 ?_
  refine J_icmp_ne hX 24 dX7_isWord_5 (by decide) h (fun c h => ?_) (fun c h => ?_)
  · refine J_aload_n hX dX7_isWord_8 rfl 0 rfl ?_
    refine J_getI hX dX7_isWord_9 fl_RX7_22 (ltn ltc_1 hn) lo_1 rfl ?_
    refine J_aload_n hX dX7_isWord_12 rfl 0 rfl ?_
    refine J_getI hX dX7_isWord_13 fl_RX7_28 (ltn ltc_1 hn) lo_1 rfl ?_
    refine J_isub hX dX7_isWord_16 ?_
    refine J_aload_n hX dX7_isWord_17 rfl 1 rfl ?_
    obtain ⟨r2, m1, h0, h⟩ := bd2_some h
    refine J_callTi (As := []) (st := [.int ((gI m 1 4) - (gI m 1 3))]) hX dX7_isWord_18 cw_RX7_52 (by omega) (c_J0_length_8abf5 hn hp1 h0) hp1 rfl rfl (Nat.le_of_ble_eq_true rfl) ?_
    clear h0
    refine J_icmp_eq hX 26 dX7_isWord_21 (by decide) h (fun c h => ?_) (fun c h => ?_)
    · refine J_iconst hX (0 : Int32) dX7_isWord_26 ic_0 ?_
      refine J_istore_n hX [(2, .int (0 : Int32)), (0, .ref 1), (1, .ref p1)] dX7_isWord_27 rfl (by decide) rfl ?_
      refine J_sub [(0, .ref 1), (1, .ref p1), (2, .int (0 : Int32))] [1, 2, 0] rfl ?_
      exact t_X7_isWord_L28 hX hd0 hn hp1 hF FU (0 : Int32)  m1 h
    · refine J_iconst hX (0 : Int32) dX7_isWord_24 ic_0 ?_
      exact J_ireturn hX dX7_isWord_25 h hF narrow_b0
  · refine J_iconst hX (0 : Int32) dX7_isWord_24 ic_0 ?_
    exact J_ireturn hX dX7_isWord_25 h hF narrow_b0
theorem c_X7_isWord {G : GG} {l : Launch} {ρ : Nat → Nat} {n t u w v : Nat} {x : Option Nat} (hn : 126 ≤ n) {p1 : Nat} (hp1 : isTx p1) {m : Mm} {rE : Int32} {mE : Mm} (h : f_X7_isWord p1 m = some (rE, mE)) : CT G l yX7_isWord cX7_isWord 3 (some .boolean) 4 0 0 ρ n (RT t u w v x) [.ref 1, .ref p1] m (some (.int rE)) (RT t u w v x) mE := ct_of_J (by decide) rfl (Nat.le_of_ble_eq_true rfl) (fun X hX e1 e2 e3 e4 hQ hr hl => t_X7_isWord hX (Nat.le_refl _) hn hp1 ⟨by rw [hQ, e3, e4], hr, hl⟩ h)
theorem t_X8_bitsOf_L4 {X : XX} {G : GG} {ρ : Nat → Nat} {n t u w v : Nat} {x : Option Nat} {d : Nat} {a : Nat} (hX : Ok X G ρ cX8_bitsOf 4 RX8 d) (hd0 : 0 ≤ d) (hn : 126 ≤ n) (ha : isTo a) {rE : Int32} {mE : Mm} (hF : Fin' X G ρ n (some .int) (some (.int rE)) (RT t u w v x) mE) : ∀ (k : Nat) (v1 : Int32) (v2 : Int32) (v3 : Int32) (m : Mm), f_X8_bitsOf_L4 a k v1 v2 v3 m = some (rE, mE) → J X G ρ n 4 4 [(0, .ref a), (1, .int v1), (2, .int v2), (3, .int v3)] [] (RT t u w v x) m := by
  intro k
  induction k with
  | zero => intro _ _ _ _ h; rw [f_X8_bitsOf_L4] at h; cases h
  | succ k ih =>
    intro v1 v2 v3 m h
    rw [f_X8_bitsOf_L4] at h
    refine J_iload_n hX dX8_bitsOf_4 rfl 3 rfl ?_
    refine J_aload_n hX dX8_bitsOf_5 rfl 0 rfl ?_
    refine J_getR hX dX8_bitsOf_6 fl_RX8_15 (ltn (lt_isTo_0 ha) hn) (lo_isTo_0 ha) rfl (rt_isTo_0_4 _ _ _ _ _ ha) ?_
    refine J_iload_n hX dX8_bitsOf_9 rfl 1 rfl ?_
    refine J_iaload hX dX8_bitsOf_10 (ltn (lt_isTo_2 ha) hn) (lay_isTo_2 ha) h (fun h => ?_)
    refine J_icmp_ge hX 35 dX8_bitsOf_11 (by decide) h (fun c h => ?_) (fun c h => ?_)
    · refine J_iload_n hX dX8_bitsOf_14 rfl 2 rfl ?_
      refine J_iconst hX (1 : Int32) dX8_bitsOf_15 ic_1 ?_
      refine J_aload_n hX dX8_bitsOf_16 rfl 0 rfl ?_
      refine J_getR hX dX8_bitsOf_17 fl_RX8_18 (ltn (lt_isTo_0 ha) hn) (lo_isTo_0 ha) rfl (rt_isTo_0_5 _ _ _ _ _ ha) ?_
      refine J_iload_n hX dX8_bitsOf_20 rfl 1 rfl ?_
      refine J_iconst hX (5 : Int32) dX8_bitsOf_21 ic_5 ?_
      refine J_imul hX dX8_bitsOf_22 ?_
      refine J_iload_n hX dX8_bitsOf_23 rfl 3 rfl ?_
      refine J_iadd hX dX8_bitsOf_24 ?_
      refine J_iaload hX dX8_bitsOf_25 (ltn (lt_isTo_3 ha) hn) (lay_isTo_3 ha) h (fun h => ?_)
      refine J_ishl hX dX8_bitsOf_26 ?_
      refine J_ior hX dX8_bitsOf_27 ?_
      refine J_istore_n hX [(2, .int (v2 ||| ((1 : Int32) <<< ((gI m (a + 3) (ix ((v1 * (5 : Int32)) + v3))) &&& 31)))), (0, .ref a), (1, .int v1), (3, .int v3)] dX8_bitsOf_28 rfl (by decide) rfl ?_
      refine J_iinc hX (v3 + (1 : Int32)) [(3, .int (v3 + (1 : Int32))), (2, .int (v2 ||| ((1 : Int32) <<< ((gI m (a + 3) (ix ((v1 * (5 : Int32)) + v3))) &&& 31)))), (0, .ref a), (1, .int v1)] dX8_bitsOf_29 3 rfl (congrArg (fun z => v3 + z) ic_1) (by decide) rfl ?_
      refine J_goto hX 4 dX8_bitsOf_32 (by decide) ?_
      refine J_sub [(0, .ref a), (1, .int v1), (2, .int (v2 ||| ((1 : Int32) <<< ((gI m (a + 3) (ix ((v1 * (5 : Int32)) + v3))) &&& 31)))), (3, .int (v3 + (1 : Int32)))] [2, 3, 1, 0] rfl ?_
      exact ih v1 (v2 ||| ((1 : Int32) <<< ((gI m (a + 3) (ix ((v1 * (5 : Int32)) + v3))) &&& 31))) (v3 + (1 : Int32)) m h
    · refine J_iload_n hX dX8_bitsOf_35 rfl 2 rfl ?_
      exact J_ireturn hX dX8_bitsOf_36 h hF rfl
theorem t_X8_bitsOf {X : XX} {G : GG} {ρ : Nat → Nat} {n t u w v : Nat} {x : Option Nat} {d : Nat} {a : Nat} (hX : Ok X G ρ cX8_bitsOf 4 RX8 d) (hd0 : 0 ≤ d) (hn : 126 ≤ n) (ha : isTo a) {rE : Int32} {mE : Mm} (hF : Fin' X G ρ n (some .int) (some (.int rE)) (RT t u w v x) mE) {x1 : Int32} {m : Mm} (h : f_X8_bitsOf a x1 m = some (rE, mE)) : J X G ρ n 4 0 [(0, .ref a), (1, .int x1)] [] (RT t u w v x) m := by
  unfold f_X8_bitsOf at h
  refine J_iconst hX (0 : Int32) dX8_bitsOf_0 ic_0 ?_
  refine J_istore_n hX [(2, .int (0 : Int32)), (0, .ref a), (1, .int x1)] dX8_bitsOf_1 rfl (by decide) rfl ?_
  refine J_iconst hX (0 : Int32) dX8_bitsOf_2 ic_0 ?_
  refine J_istore_n hX [(3, .int (0 : Int32)), (2, .int (0 : Int32)), (0, .ref a), (1, .int x1)] dX8_bitsOf_3 rfl (by decide) rfl ?_
  refine J_sub [(0, .ref a), (1, .int x1), (2, .int (0 : Int32)), (3, .int (0 : Int32))] [2, 3, 1, 0] rfl ?_
  exact t_X8_bitsOf_L4 hX hd0 hn ha hF FU x1 (0 : Int32) (0 : Int32)  m h
theorem c_X8_bitsOf {G : GG} {l : Launch} {ρ : Nat → Nat} {n t u w v : Nat} {x : Option Nat} (hn : 126 ≤ n) {a : Nat} (ha : isTo a) {x1 : Int32} {m : Mm} {rE : Int32} {mE : Mm} (h : f_X8_bitsOf a x1 m = some (rE, mE)) : CT G l yX8_bitsOf cX8_bitsOf 4 (some .int) 0 0 0 ρ n (RT t u w v x) [.ref a, .int x1] m (some (.int rE)) (RT t u w v x) mE := ct_of_J (by decide) rfl (Nat.le_of_ble_eq_true rfl) (fun X hX e1 e2 e3 e4 hQ hr hl => t_X8_bitsOf hX (Nat.le_refl _) hn ha ⟨by rw [hQ, e3, e4], hr, hl⟩ h)
theorem t_X8_stripesOf {X : XX} {G : GG} {ρ : Nat → Nat} {n t u w v : Nat} {x : Option Nat} {d : Nat} {a : Nat} (hX : Ok X G ρ cX8_stripesOf 3 RX8 d) (hd0 : 0 ≤ d) (hn : 126 ≤ n) (ha : isTo a) {rE : Int32} {mE : Mm} (hF : Fin' X G ρ n (some .int) (some (.int rE)) (RT t u w v x) mE) {x1 : Int32} {x2 : Int32} {m : Mm} (h : f_X8_stripesOf a x1 x2 m = some (rE, mE)) : J X G ρ n 3 0 [(0, .ref a), (1, .int x1), (2, .int x2)] [] (RT t u w v x) m := by
  unfold f_X8_stripesOf at h
  refine J_aload_n hX dX8_stripesOf_0 rfl 0 rfl ?_
  refine J_getR hX dX8_stripesOf_1 fl_RX8_9 (ltn (lt_isTo_0 ha) hn) (lo_isTo_0 ha) rfl (rt_isTo_0_3 _ _ _ _ _ ha) ?_
  refine J_iload_n hX dX8_stripesOf_4 rfl 1 rfl ?_
  refine J_iaload hX dX8_stripesOf_5 (ltn (lt_isTo_1 ha) hn) (lay_isTo_1 ha) h (fun h => ?_)
  refine J_split h (fun c0 h => ?_) (fun c0 h => ?_)
  · refine J_look hX 32 dX8_stripesOf_6 (by decide) (by rw [c0]; decide) (by decide) ?_
    refine J_iconst hX (1 : Int32) dX8_stripesOf_32 ic_1 ?_
    exact J_ireturn hX dX8_stripesOf_33 h hF rfl
  · refine J_split h (fun c1 h => ?_) (fun c1 h => ?_)
    · refine J_look hX 34 dX8_stripesOf_6 (by decide) (by rw [c1]; decide) (by decide) ?_
      refine J_iload_n hX dX8_stripesOf_34 rfl 2 rfl ?_
      exact J_ireturn hX dX8_stripesOf_35 h hF rfl
    · refine J_look hX 36 dX8_stripesOf_6 (by decide) (by rw [lv_osw c0 (by decide)]; rw [lv_osw c1 (by decide)]; rfl) (by decide) ?_
      refine J_iconst hX (2 : Int32) dX8_stripesOf_36 ic_2 ?_
      exact J_ireturn hX dX8_stripesOf_37 h hF rfl
theorem c_X8_stripesOf {G : GG} {l : Launch} {ρ : Nat → Nat} {n t u w v : Nat} {x : Option Nat} (hn : 126 ≤ n) {a : Nat} (ha : isTo a) {x1 : Int32} {x2 : Int32} {m : Mm} {rE : Int32} {mE : Mm} (h : f_X8_stripesOf a x1 x2 m = some (rE, mE)) : CT G l yX8_stripesOf cX8_stripesOf 3 (some .int) 0 0 0 ρ n (RT t u w v x) [.ref a, .int x1, .int x2] m (some (.int rE)) (RT t u w v x) mE := ct_of_J (by decide) rfl (Nat.le_of_ble_eq_true rfl) (fun X hX e1 e2 e3 e4 hQ hr hl => t_X8_stripesOf hX (Nat.le_refl _) hn ha ⟨by rw [hQ, e3, e4], hr, hl⟩ h)
theorem t_X8_stripesOfAll_L5 {X : XX} {G : GG} {ρ : Nat → Nat} {n t u w v : Nat} {x : Option Nat} {d : Nat} {a : Nat} (hX : Ok X G ρ cX8_stripesOfAll 5 RX8 d) (hd0 : 1 ≤ d) (hn : 126 ≤ n) (ha : isTo a) {rE : Int32} {mE : Mm} (hF : Fin' X G ρ n (some .int) (some (.int rE)) (RT t u w v x) mE) : ∀ (k : Nat) (v1 : Int32) (v2 : Int32) (v3 : Int32) (v4 : Int32) (m : Mm), f_X8_stripesOfAll_L5 a k v1 v2 v3 v4 m = some (rE, mE) → J X G ρ n 5 5 [(0, .ref a), (1, .int v1), (2, .int v2), (3, .int v3), (4, .int v4)] [] (RT t u w v x) m := by
  intro k
  induction k with
  | zero => intro _ _ _ _ _ h; rw [f_X8_stripesOfAll_L5] at h; cases h
  | succ k ih =>
    intro v1 v2 v3 v4 m h
    rw [f_X8_stripesOfAll_L5] at h
    refine J_iload hX dX8_stripesOfAll_5 4 rfl ?_
    refine J_iload_n hX dX8_stripesOfAll_7 rfl 1 rfl ?_
    refine J_icmp_ge hX 27 dX8_stripesOfAll_8 (by decide) h (fun c h => ?_) (fun c h => ?_)
    · refine J_iload_n hX dX8_stripesOfAll_11 rfl 3 rfl ?_
      refine J_aload_n hX dX8_stripesOfAll_12 rfl 0 rfl ?_
      refine J_iload hX dX8_stripesOfAll_13 4 rfl ?_
      refine J_iload_n hX dX8_stripesOfAll_15 rfl 2 rfl ?_
      obtain ⟨r2, m1, h0, h⟩ := bd2_some h
      refine J_callVi (As := [.int v4, .int v2]) (st := [.int v3]) hX dX8_stripesOfAll_16 cw_RX8_41 (by omega) (c_X8_stripesOf hn ha h0) (ltn (lt_isTo_0 ha) hn) (lo_isTo_0 ha) (by decide) rfl rfl rfl (Nat.le_of_ble_eq_true rfl) ?_
      clear h0
      refine J_iadd hX dX8_stripesOfAll_19 ?_
      refine J_istore_n hX [(3, .int (v3 + r2)), (0, .ref a), (1, .int v1), (2, .int v2), (4, .int v4)] dX8_stripesOfAll_20 rfl (by decide) rfl ?_
      refine J_iinc hX (v4 + (1 : Int32)) [(4, .int (v4 + (1 : Int32))), (3, .int (v3 + r2)), (0, .ref a), (1, .int v1), (2, .int v2)] dX8_stripesOfAll_21 4 rfl (congrArg (fun z => v4 + z) ic_1) (by decide) rfl ?_
      refine J_goto hX 5 dX8_stripesOfAll_24 (by decide) ?_
      refine J_sub [(0, .ref a), (1, .int v1), (2, .int v2), (3, .int (v3 + r2)), (4, .int (v4 + (1 : Int32)))] [2, 3, 4, 1, 0] rfl ?_
      exact ih v1 v2 (v3 + r2) (v4 + (1 : Int32)) m1 h
    · refine J_iload_n hX dX8_stripesOfAll_27 rfl 3 rfl ?_
      exact J_ireturn hX dX8_stripesOfAll_28 h hF rfl
theorem t_X8_stripesOfAll {X : XX} {G : GG} {ρ : Nat → Nat} {n t u w v : Nat} {x : Option Nat} {d : Nat} {a : Nat} (hX : Ok X G ρ cX8_stripesOfAll 5 RX8 d) (hd0 : 1 ≤ d) (hn : 126 ≤ n) (ha : isTo a) {rE : Int32} {mE : Mm} (hF : Fin' X G ρ n (some .int) (some (.int rE)) (RT t u w v x) mE) {x1 : Int32} {x2 : Int32} {m : Mm} (h : f_X8_stripesOfAll a x1 x2 m = some (rE, mE)) : J X G ρ n 5 0 [(0, .ref a), (1, .int x1), (2, .int x2)] [] (RT t u w v x) m := by
  unfold f_X8_stripesOfAll at h
  refine J_iconst hX (0 : Int32) dX8_stripesOfAll_0 ic_0 ?_
  refine J_istore_n hX [(3, .int (0 : Int32)), (0, .ref a), (1, .int x1), (2, .int x2)] dX8_stripesOfAll_1 rfl (by decide) rfl ?_
  refine J_iconst hX (0 : Int32) dX8_stripesOfAll_2 ic_0 ?_
  refine J_istore hX [(4, .int (0 : Int32)), (3, .int (0 : Int32)), (0, .ref a), (1, .int x1), (2, .int x2)] dX8_stripesOfAll_3 (by decide) rfl ?_
  refine J_sub [(0, .ref a), (1, .int x1), (2, .int x2), (3, .int (0 : Int32)), (4, .int (0 : Int32))] [2, 3, 4, 1, 0] rfl ?_
  exact t_X8_stripesOfAll_L5 hX hd0 hn ha hF FU x1 x2 (0 : Int32) (0 : Int32)  m h
theorem c_X8_stripesOfAll {G : GG} {l : Launch} {ρ : Nat → Nat} {n t u w v : Nat} {x : Option Nat} (hn : 126 ≤ n) {a : Nat} (ha : isTo a) {x1 : Int32} {x2 : Int32} {m : Mm} {rE : Int32} {mE : Mm} (h : f_X8_stripesOfAll a x1 x2 m = some (rE, mE)) : CT G l yX8_stripesOfAll cX8_stripesOfAll 5 (some .int) 1 0 0 ρ n (RT t u w v x) [.ref a, .int x1, .int x2] m (some (.int rE)) (RT t u w v x) mE := ct_of_J (by decide) rfl (Nat.le_of_ble_eq_true rfl) (fun X hX e1 e2 e3 e4 hQ hr hl => t_X8_stripesOfAll hX (Nat.le_refl _) hn ha ⟨by rw [hQ, e3, e4], hr, hl⟩ h)
theorem t_X0_kindInHand {X : XX} {G : GG} {ρ : Nat → Nat} {n t u w v : Nat} {d : Nat} {b : Nat} (hX : Ok X G ρ cX0_kindInHand 1 RX0 d) (hd0 : 5 ≤ d) (hn : 126 ≤ n) (hb : isTo b) {rE : Int32} {mE : Mm} (hF : Fin' X G ρ n (some .int) (some (.int rE)) (RT t u w v (some b)) mE) {m : Mm} (h : f_X0_kindInHand b m = some (rE, mE)) : J X G ρ n 1 0 [(0, .ref 17)] [] (RT t u w v (some b)) m := by
  unfold f_X0_kindInHand at h
  refine J_aload_n hX dX0_kindInHand_0 rfl 0 rfl ?_
  refine J_getR hX dX0_kindInHand_1 fl_RX0_9 (ltn ltc_17 hn) lo_17 rfl (rt_17_0 _ _ _ _ _) ?_
  refine J_ldcS hX (k := 4) dX0_kindInHand_4 rfl ?_
  obtain ⟨r2, m1, h0, h⟩ := bd2_some h
  refine J_callVi (As := [.ref 1004]) (st := []) hX dX0_kindInHand_6 cw_RX0_38 (by omega) (c_X7_isWord hn p_isTx_1004 h0) (ltn ltc_1 hn) lo_1 (by decide) rfl rfl rfl (Nat.le_of_ble_eq_true rfl) ?_
  clear h0
  refine J_if_eq hX 14 dX0_kindInHand_9 (by decide) h (fun c h => ?_) (fun c h => ?_)
  · refine J_aload_n hX dX0_kindInHand_14 rfl 0 rfl ?_
    refine J_getR hX dX0_kindInHand_15 fl_RX0_9 (ltn ltc_17 hn) lo_17 rfl (rt_17_0 _ _ _ _ _) ?_
    refine J_ldcS hX (k := 5) dX0_kindInHand_18 rfl ?_
    obtain ⟨r4, m3, h0, h⟩ := bd2_some h
    refine J_callVi (As := [.ref 1005]) (st := []) hX dX0_kindInHand_20 cw_RX0_38 (by omega) (c_X7_isWord hn p_isTx_1005 h0) (ltn ltc_1 hn) lo_1 (by decide) rfl rfl rfl (Nat.le_of_ble_eq_true rfl) ?_
    clear h0
    refine J_if_eq hX 28 dX0_kindInHand_23 (by decide) h (fun c h => ?_) (fun c h => ?_)
    · refine J_aload_n hX dX0_kindInHand_28 rfl 0 rfl ?_
      refine J_getR hX dX0_kindInHand_29 fl_RX0_9 (ltn ltc_17 hn) lo_17 rfl (rt_17_0 _ _ _ _ _) ?_
      refine J_ldcS hX (k := 6) dX0_kindInHand_32 rfl ?_
      obtain ⟨r6, m5, h0, h⟩ := bd2_some h
      refine J_callVi (As := [.ref 1006]) (st := []) hX dX0_kindInHand_34 cw_RX0_38 (by omega) (c_X7_isWord hn p_isTx_1006 h0) (ltn ltc_1 hn) lo_1 (by decide) rfl rfl rfl (Nat.le_of_ble_eq_true rfl) ?_
      clear h0
      refine J_if_eq hX 42 dX0_kindInHand_37 (by decide) h (fun c h => ?_) (fun c h => ?_)
      · refine J_aload_n hX dX0_kindInHand_42 rfl 0 rfl ?_
        refine J_getR hX dX0_kindInHand_43 fl_RX0_9 (ltn ltc_17 hn) lo_17 rfl (rt_17_0 _ _ _ _ _) ?_
        refine J_ldcS hX (k := 7) dX0_kindInHand_46 rfl ?_
        obtain ⟨r8, m7, h0, h⟩ := bd2_some h
        refine J_callVi (As := [.ref 1007]) (st := []) hX dX0_kindInHand_48 cw_RX0_38 (by omega) (c_X7_isWord hn p_isTx_1007 h0) (ltn ltc_1 hn) lo_1 (by decide) rfl rfl rfl (Nat.le_of_ble_eq_true rfl) ?_
        clear h0
        refine J_if_eq hX 58 dX0_kindInHand_51 (by decide) h (fun c h => ?_) (fun c h => ?_)
        · refine J_iconst hX (-1 : Int32) dX0_kindInHand_58 ic_m1 ?_
          exact J_ireturn hX dX0_kindInHand_59 h hF rfl
        · refine J_iconst hX (3 : Int32) dX0_kindInHand_54 ic_3 ?_
          refine J_goto hX 59 dX0_kindInHand_55 (by decide) ?_
          exact J_ireturn hX dX0_kindInHand_59 h hF rfl
      · refine J_iconst hX (2 : Int32) dX0_kindInHand_40 ic_2 ?_
        exact J_ireturn hX dX0_kindInHand_41 h hF rfl
    · refine J_iconst hX (1 : Int32) dX0_kindInHand_26 ic_1 ?_
      exact J_ireturn hX dX0_kindInHand_27 h hF rfl
  · refine J_iconst hX (0 : Int32) dX0_kindInHand_12 ic_0 ?_
    exact J_ireturn hX dX0_kindInHand_13 h hF rfl
theorem c_X0_kindInHand {G : GG} {l : Launch} {ρ : Nat → Nat} {n t u w v : Nat} (hn : 126 ≤ n) {b : Nat} (hb : isTo b) {m : Mm} {rE : Int32} {mE : Mm} (h : f_X0_kindInHand b m = some (rE, mE)) : CT G l yX0_kindInHand cX0_kindInHand 1 (some .int) 5 0 0 ρ n (RT t u w v (some b)) [.ref 17] m (some (.int rE)) (RT t u w v (some b)) mE := ct_of_J (by decide) rfl (Nat.le_of_ble_eq_true rfl) (fun X hX e1 e2 e3 e4 hQ hr hl => t_X0_kindInHand hX (Nat.le_refl _) hn hb ⟨by rw [hQ, e3, e4], hr, hl⟩ h)
theorem t_X0_blockDisk {X : XX} {G : GG} {ρ : Nat → Nat} {n t u w v : Nat} {d : Nat} {b : Nat} (hX : Ok X G ρ cX0_blockDisk 3 RX0 d) (hd0 : 5 ≤ d) (hn : 126 ≤ n) (hb : isTo b) {mE : Mm} (hF : Fin' X G ρ n none none (RT t u w v (some b)) mE) {m : Mm} (h : f_X0_blockDisk b m = some mE) : J X G ρ n 3 0 [(0, .ref 17)] [] (RT t u w v (some b)) m := by
  unfold f_X0_blockDisk at h
  refine J_aload_n hX dX0_blockDisk_0 rfl 0 rfl ?_
  refine J_getR hX dX0_blockDisk_1 fl_RX0_15 (ltn ltc_17 hn) lo_17 rfl (rt_17_1 _ _ _ _ _) ?_
  refine J_getI hX dX0_blockDisk_4 fl_RX0_92 (ltn (lt_isTo_0 hb) hn) (lo_isTo_0 hb) rfl ?_
  refine J_istore_n hX [(1, .int (gI m b 2)), (0, .ref 17)] dX0_blockDisk_7 rfl (by decide) rfl ?_
  refine J_aload_n hX dX0_blockDisk_8 rfl 1 rfl ?_
  refine J_getR hX dX0_blockDisk_9 fl_RX0_15 (ltn ltc_17 hn) lo_17 rfl (rt_17_1 _ _ _ _ _) ?_
  refine J_getR hX dX0_blockDisk_12 fl_RX0_103 (ltn (lt_isTo_0 hb) hn) (lo_isTo_0 hb) rfl (rt_isTo_0_4 _ _ _ _ _ hb) ?_
  refine J_iload_n hX dX0_blockDisk_15 rfl 0 rfl ?_
  refine J_iaload hX dX0_blockDisk_16 (ltn (lt_isTo_2 hb) hn) (lay_isTo_2 hb) h (fun h => ?_)
  refine J_istore_n hX [(2, .int (gI m (b + 2) (ix (gI m b 2)))), (1, .int (gI m b 2)), (0, .ref 17)] dX0_blockDisk_17 rfl (by decide) rfl ?_
  refine J_aload_n hX dX0_blockDisk_18 rfl 2 rfl ?_
  refine J_getR hX dX0_blockDisk_19 fl_RX0_9 (ltn ltc_17 hn) lo_17 rfl (rt_17_0 _ _ _ _ _) ?_
  refine J_getI hX dX0_blockDisk_22 fl_RX0_120 (ltn ltc_1 hn) lo_1 rfl ?_
  refine J_aload_n hX dX0_blockDisk_25 rfl 2 rfl ?_
  refine J_getR hX dX0_blockDisk_26 fl_RX0_15 (ltn ltc_17 hn) lo_17 rfl (rt_17_1 _ _ _ _ _) ?_
  refine J_getI hX dX0_blockDisk_29 fl_RX0_64 (ltn (lt_isTo_0 hb) hn) (lo_isTo_0 hb) rfl ?_
  refine J_icmp_lt hX 46 dX0_blockDisk_32 (by decide) h (fun c h => ?_) (fun c h => ?_)
  · refine J_aload_n hX dX0_blockDisk_46 rfl 2 rfl ?_
    refine J_getR hX dX0_blockDisk_47 fl_RX0_15 (ltn ltc_17 hn) lo_17 rfl (rt_17_1 _ _ _ _ _) ?_
    refine J_iload_n hX dX0_blockDisk_50 rfl 1 rfl ?_
    obtain ⟨r2, m1, h0, h⟩ := bd2_some h
    refine J_callVi (As := [.int (gI m b 2)]) (st := []) hX dX0_blockDisk_51 cw_RX0_123 (by omega) (c_X8_bitsOf hn hb h0) (ltn (lt_isTo_0 hb) hn) (lo_isTo_0 hb) (by decide) rfl rfl rfl (Nat.le_of_ble_eq_true rfl) ?_
    clear h0
    refine J_aload_n hX dX0_blockDisk_54 rfl 2 rfl ?_
    refine J_getR hX dX0_blockDisk_55 fl_RX0_9 (ltn ltc_17 hn) lo_17 rfl (rt_17_0 _ _ _ _ _) ?_
    refine J_getI hX dX0_blockDisk_58 fl_RX0_120 (ltn ltc_1 hn) lo_1 rfl ?_
    refine J_ishr hX dX0_blockDisk_61 ?_
    refine J_iconst hX (1 : Int32) dX0_blockDisk_62 ic_1 ?_
    refine J_iand hX dX0_blockDisk_63 ?_
    refine J_if_eq hX 78 dX0_blockDisk_64 (by decide) h (fun c h => ?_) (fun c h => ?_)
    · refine J_iload_n hX dX0_blockDisk_78 rfl 0 rfl ?_
      refine J_iconst hX (5 : Int32) dX0_blockDisk_79 ic_5 ?_
      refine J_icmp_lt hX 94 dX0_blockDisk_80 (by decide) h (fun c h => ?_) (fun c h => ?_)
      · refine J_aload_n hX dX0_blockDisk_94 rfl 2 rfl ?_
        refine J_getR hX dX0_blockDisk_95 fl_RX0_15 (ltn ltc_17 hn) lo_17 rfl (rt_17_1 _ _ _ _ _) ?_
        refine J_getR hX dX0_blockDisk_98 fl_RX0_127 (ltn (lt_isTo_0 hb) hn) (lo_isTo_0 hb) rfl (rt_isTo_0_5 _ _ _ _ _ hb) ?_
        refine J_iload_n hX dX0_blockDisk_101 rfl 1 rfl ?_
        refine J_iconst hX (5 : Int32) dX0_blockDisk_102 ic_5 ?_
        refine J_imul hX dX0_blockDisk_103 ?_
        refine J_iload_n hX dX0_blockDisk_104 rfl 0 rfl ?_
        refine J_iadd hX dX0_blockDisk_105 ?_
        refine J_aload_n hX dX0_blockDisk_106 rfl 2 rfl ?_
        refine J_getR hX dX0_blockDisk_107 fl_RX0_9 (ltn ltc_17 hn) lo_17 rfl (rt_17_0 _ _ _ _ _) ?_
        refine J_getI hX dX0_blockDisk_110 fl_RX0_120 (ltn ltc_1 hn) lo_1 rfl ?_
        refine J_iastore hX dX0_blockDisk_113 (ltn (lt_isTo_3 hb) hn) (lay_isTo_3 hb) h (fun m3 h => ?_)
        refine J_aload_n hX dX0_blockDisk_114 rfl 2 rfl ?_
        refine J_getR hX dX0_blockDisk_115 fl_RX0_15 (ltn ltc_17 hn) lo_17 rfl (rt_17_1 _ _ _ _ _) ?_
        refine J_getR hX dX0_blockDisk_118 fl_RX0_103 (ltn (lt_isTo_0 hb) hn) (lo_isTo_0 hb) rfl (rt_isTo_0_4 _ _ _ _ _ hb) ?_
        refine J_iload_n hX dX0_blockDisk_121 rfl 1 rfl ?_
        refine J_iload_n hX dX0_blockDisk_122 rfl 0 rfl ?_
        refine J_iconst hX (1 : Int32) dX0_blockDisk_123 ic_1 ?_
        refine J_iadd hX dX0_blockDisk_124 ?_
        refine J_iastore hX dX0_blockDisk_125 (ltn (lt_isTo_2 hb) hn) (lay_isTo_2 hb) h (fun m4 h => ?_)
        refine J_aload_n hX dX0_blockDisk_126 rfl 2 rfl ?_
        refine J_getR hX dX0_blockDisk_127 fl_RX0_9 (ltn ltc_17 hn) lo_17 rfl (rt_17_0 _ _ _ _ _) ?_
        obtain ⟨m5, h0, h⟩ := bd1_some h
        refine J_callVv (As := []) (st := []) hX dX0_blockDisk_130 cw_RX0_66 (by omega) (c_X7_advance hn  h0) (ltn ltc_1 hn) lo_1 (by decide) rfl rfl rfl (Nat.le_of_ble_eq_true rfl) ?_
        clear h0
        exact J_return hX dX0_blockDisk_133 h hF
      · refine J_aload_n hX dX0_blockDisk_83 rfl 2 rfl ?_
        refine J_getR hX dX0_blockDisk_84 fl_RX0_9 (ltn ltc_17 hn) lo_17 rfl (rt_17_0 _ _ _ _ _) ?_
        refine J_iconst hX (5 : Int32) dX0_blockDisk_87 ic_5 ?_
        obtain ⟨m6, h0, h⟩ := bd1_some h
        refine J_callVv (As := [.int (5 : Int32)]) (st := []) hX dX0_blockDisk_88 cw_RX0_60 (by omega) (c_X7_fail hn  h0) (ltn ltc_1 hn) lo_1 (by decide) rfl rfl rfl (Nat.le_of_ble_eq_true rfl) ?_
        clear h0
        refine J_goto hX 133 dX0_blockDisk_91 (by decide) ?_
        exact J_return hX dX0_blockDisk_133 h hF
    · refine J_aload_n hX dX0_blockDisk_67 rfl 2 rfl ?_
      refine J_getR hX dX0_blockDisk_68 fl_RX0_9 (ltn ltc_17 hn) lo_17 rfl (rt_17_0 _ _ _ _ _) ?_
      refine J_iconst hX (3 : Int32) dX0_blockDisk_71 ic_3 ?_
      obtain ⟨m7, h0, h⟩ := bd1_some h
      refine J_callVv (As := [.int (3 : Int32)]) (st := []) hX dX0_blockDisk_72 cw_RX0_60 (by omega) (c_X7_fail hn  h0) (ltn ltc_1 hn) lo_1 (by decide) rfl rfl rfl (Nat.le_of_ble_eq_true rfl) ?_
      clear h0
      refine J_goto hX 133 dX0_blockDisk_75 (by decide) ?_
      exact J_return hX dX0_blockDisk_133 h hF
  · refine J_aload_n hX dX0_blockDisk_35 rfl 2 rfl ?_
    refine J_getR hX dX0_blockDisk_36 fl_RX0_9 (ltn ltc_17 hn) lo_17 rfl (rt_17_0 _ _ _ _ _) ?_
    refine J_iconst hX (4 : Int32) dX0_blockDisk_39 ic_4 ?_
    obtain ⟨m8, h0, h⟩ := bd1_some h
    refine J_callVv (As := [.int (4 : Int32)]) (st := []) hX dX0_blockDisk_40 cw_RX0_60 (by omega) (c_X7_fail hn  h0) (ltn ltc_1 hn) lo_1 (by decide) rfl rfl rfl (Nat.le_of_ble_eq_true rfl) ?_
    clear h0
    refine J_goto hX 133 dX0_blockDisk_43 (by decide) ?_
    exact J_return hX dX0_blockDisk_133 h hF
theorem c_X0_blockDisk {G : GG} {l : Launch} {ρ : Nat → Nat} {n t u w v : Nat} (hn : 126 ≤ n) {b : Nat} (hb : isTo b) {m : Mm} {mE : Mm} (h : f_X0_blockDisk b m = some mE) : CT G l yX0_blockDisk cX0_blockDisk 3 none 5 0 0 ρ n (RT t u w v (some b)) [.ref 17] m none (RT t u w v (some b)) mE := ct_of_J (by decide) rfl (Nat.le_of_ble_eq_true rfl) (fun X hX e1 e2 e3 e4 hQ hr hl => t_X0_blockDisk hX (Nat.le_refl _) hn hb ⟨by rw [hQ, e3, e4], hr, hl⟩ h)
theorem t_X0_closeBlock {X : XX} {G : GG} {ρ : Nat → Nat} {n t u w v : Nat} {d : Nat} {b : Nat} (hX : Ok X G ρ cX0_closeBlock 1 RX0 d) (hd0 : 5 ≤ d) (hn : 126 ≤ n) (hb : isTo b) {mE : Mm} (hF : Fin' X G ρ n none none (RT t u w v (some b)) mE) {m : Mm} (h : f_X0_closeBlock b m = some mE) : J X G ρ n 1 0 [(0, .ref 17)] [] (RT t u w v (some b)) m := by
  unfold f_X0_closeBlock at h
  refine J_aload_n hX dX0_closeBlock_0 rfl 0 rfl ?_
  refine J_getR hX dX0_closeBlock_1 fl_RX0_9 (ltn ltc_17 hn) lo_17 rfl (rt_17_0 _ _ _ _ _) ?_
  refine J_getI hX dX0_closeBlock_4 fl_RX0_29 (ltn ltc_1 hn) lo_1 rfl ?_
  refine J_if_eq hX 11 dX0_closeBlock_7 (by decide) h (fun c h => ?_) (fun c h => ?_)
  · refine J_aload_n hX dX0_closeBlock_11 rfl 0 rfl ?_
    refine J_getR hX dX0_closeBlock_12 fl_RX0_15 (ltn ltc_17 hn) lo_17 rfl (rt_17_1 _ _ _ _ _) ?_
    refine J_getR hX dX0_closeBlock_15 fl_RX0_103 (ltn (lt_isTo_0 hb) hn) (lo_isTo_0 hb) rfl (rt_isTo_0_4 _ _ _ _ _ hb) ?_
    refine J_aload_n hX dX0_closeBlock_18 rfl 0 rfl ?_
    refine J_getR hX dX0_closeBlock_19 fl_RX0_15 (ltn ltc_17 hn) lo_17 rfl (rt_17_1 _ _ _ _ _) ?_
    refine J_getI hX dX0_closeBlock_22 fl_RX0_92 (ltn (lt_isTo_0 hb) hn) (lo_isTo_0 hb) rfl ?_
    refine J_iaload hX dX0_closeBlock_25 (ltn (lt_isTo_2 hb) hn) (lay_isTo_2 hb) h (fun h => ?_)
    refine J_iconst hX (2 : Int32) dX0_closeBlock_26 ic_2 ?_
    refine J_icmp_lt hX 42 dX0_closeBlock_27 (by decide) h (fun c h => ?_) (fun c h => ?_)
    · refine J_aload_n hX dX0_closeBlock_42 rfl 0 rfl ?_
      refine J_getR hX dX0_closeBlock_43 fl_RX0_9 (ltn ltc_17 hn) lo_17 rfl (rt_17_0 _ _ _ _ _) ?_
      refine J_iconst hX (1 : Int32) dX0_closeBlock_46 ic_1 ?_
      obtain ⟨m1, h0, h⟩ := bd1_some h
      refine J_callVv (As := [.int (1 : Int32)]) (st := []) hX dX0_closeBlock_47 cw_RX0_60 (by omega) (c_X7_fail hn  h0) (ltn ltc_1 hn) lo_1 (by decide) rfl rfl rfl (Nat.le_of_ble_eq_true rfl) ?_
      clear h0
      refine J_goto hX 112 dX0_closeBlock_50 (by decide) ?_
      exact J_return hX dX0_closeBlock_112 h hF
    · refine J_aload_n hX dX0_closeBlock_30 rfl 0 rfl ?_
      refine J_getR hX dX0_closeBlock_31 fl_RX0_9 (ltn ltc_17 hn) lo_17 rfl (rt_17_0 _ _ _ _ _) ?_
      refine J_bipush hX (59 : Int32) dX0_closeBlock_34 (by decide) ?_
      obtain ⟨r3, m2, h0, h⟩ := bd2_some h
      refine J_callVi (As := [.int (59 : Int32)]) (st := []) hX dX0_closeBlock_36 cw_RX0_130 (by omega) (c_X7_isSign hn  h0) (ltn ltc_1 hn) lo_1 (by decide) rfl rfl rfl (Nat.le_of_ble_eq_true rfl) ?_
      clear h0
      refine J_if_ne hX 53 dX0_closeBlock_39 (by decide) h (fun c h => ?_) (fun c h => ?_)
      · refine J_aload_n hX dX0_closeBlock_42 rfl 0 rfl ?_
        refine J_getR hX dX0_closeBlock_43 fl_RX0_9 (ltn ltc_17 hn) lo_17 rfl (rt_17_0 _ _ _ _ _) ?_
        refine J_iconst hX (1 : Int32) dX0_closeBlock_46 ic_1 ?_
        obtain ⟨m9, h0, h⟩ := bd1_some h
        refine J_callVv (As := [.int (1 : Int32)]) (st := []) hX dX0_closeBlock_47 cw_RX0_60 (by omega) (c_X7_fail hn  h0) (ltn ltc_1 hn) lo_1 (by decide) rfl rfl rfl (Nat.le_of_ble_eq_true rfl) ?_
        clear h0
        refine J_goto hX 112 dX0_closeBlock_50 (by decide) ?_
        exact J_return hX dX0_closeBlock_112 h hF
      · refine J_aload_n hX dX0_closeBlock_53 rfl 0 rfl ?_
        refine J_getR hX dX0_closeBlock_54 fl_RX0_15 (ltn ltc_17 hn) lo_17 rfl (rt_17_1 _ _ _ _ _) ?_
        refine J_aload_n hX dX0_closeBlock_57 rfl 0 rfl ?_
        refine J_getR hX dX0_closeBlock_58 fl_RX0_15 (ltn ltc_17 hn) lo_17 rfl (rt_17_1 _ _ _ _ _) ?_
        refine J_getI hX dX0_closeBlock_61 fl_RX0_92 (ltn (lt_isTo_0 hb) hn) (lo_isTo_0 hb) rfl ?_
        refine J_iconst hX (1 : Int32) dX0_closeBlock_64 ic_1 ?_
        refine J_iadd hX dX0_closeBlock_65 ?_
        refine J_aload_n hX dX0_closeBlock_66 rfl 0 rfl ?_
        refine J_getR hX dX0_closeBlock_67 fl_RX0_15 (ltn ltc_17 hn) lo_17 rfl (rt_17_1 _ _ _ _ _) ?_
        refine J_getI hX dX0_closeBlock_70 fl_RX0_64 (ltn (lt_isTo_0 hb) hn) (lo_isTo_0 hb) rfl ?_
        obtain ⟨r5, m4, h0, h⟩ := bd2_some h
        refine J_callVi (As := [.int ((gI m2 b 2) + (1 : Int32)), .int (gI m2 b 0)]) (st := []) hX dX0_closeBlock_73 cw_RX0_134 (by omega) (c_X8_stripesOfAll hn hb h0) (ltn (lt_isTo_0 hb) hn) (lo_isTo_0 hb) (by decide) rfl rfl rfl (Nat.le_of_ble_eq_true rfl) ?_
        clear h0
        refine J_bipush hX (40 : Int32) dX0_closeBlock_76 (by decide) ?_
        refine J_icmp_le hX 92 dX0_closeBlock_78 (by decide) h (fun c h => ?_) (fun c h => ?_)
        · refine J_aload_n hX dX0_closeBlock_81 rfl 0 rfl ?_
          refine J_getR hX dX0_closeBlock_82 fl_RX0_9 (ltn ltc_17 hn) lo_17 rfl (rt_17_0 _ _ _ _ _) ?_
          refine J_iconst hX (5 : Int32) dX0_closeBlock_85 ic_5 ?_
          obtain ⟨m8, h0, h⟩ := bd1_some h
          refine J_callVv (As := [.int (5 : Int32)]) (st := []) hX dX0_closeBlock_86 cw_RX0_60 (by omega) (c_X7_fail hn  h0) (ltn ltc_1 hn) lo_1 (by decide) rfl rfl rfl (Nat.le_of_ble_eq_true rfl) ?_
          clear h0
          refine J_goto hX 112 dX0_closeBlock_89 (by decide) ?_
          exact J_return hX dX0_closeBlock_112 h hF
        · refine J_aload_n hX dX0_closeBlock_92 rfl 0 rfl ?_
          refine J_getR hX dX0_closeBlock_93 fl_RX0_15 (ltn ltc_17 hn) lo_17 rfl (rt_17_1 _ _ _ _ _) ?_
          refine J_dup hX dX0_closeBlock_96 rfl ?_
          refine J_getI hX dX0_closeBlock_97 fl_RX0_92 (ltn (lt_isTo_0 hb) hn) (lo_isTo_0 hb) rfl ?_
          refine J_iconst hX (1 : Int32) dX0_closeBlock_100 ic_1 ?_
          refine J_iadd hX dX0_closeBlock_101 ?_
          refine J_putI hX dX0_closeBlock_102 pl_RX0_92 (ltn (lt_isTo_0 hb) hn) (lo_isTo_0 hb) rfl rfl rfl h (fun m6 h => ?_)
          refine J_aload_n hX dX0_closeBlock_105 rfl 0 rfl ?_
          refine J_getR hX dX0_closeBlock_106 fl_RX0_9 (ltn ltc_17 hn) lo_17 rfl (rt_17_0 _ _ _ _ _) ?_
          obtain ⟨m7, h0, h⟩ := bd1_some h
          refine J_callVv (As := []) (st := []) hX dX0_closeBlock_109 cw_RX0_66 (by omega) (c_X7_advance hn  h0) (ltn ltc_1 hn) lo_1 (by decide) rfl rfl rfl (Nat.le_of_ble_eq_true rfl) ?_
          clear h0
          exact J_return hX dX0_closeBlock_112 h hF
  · exact J_return hX dX0_closeBlock_10 h hF
theorem c_X0_closeBlock {G : GG} {l : Launch} {ρ : Nat → Nat} {n t u w v : Nat} (hn : 126 ≤ n) {b : Nat} (hb : isTo b) {m : Mm} {mE : Mm} (h : f_X0_closeBlock b m = some mE) : CT G l yX0_closeBlock cX0_closeBlock 1 none 5 0 0 ρ n (RT t u w v (some b)) [.ref 17] m none (RT t u w v (some b)) mE := ct_of_J (by decide) rfl (Nat.le_of_ble_eq_true rfl) (fun X hX e1 e2 e3 e4 hQ hr hl => t_X0_closeBlock hX (Nat.le_refl _) hn hb ⟨by rw [hQ, e3, e4], hr, hl⟩ h)
theorem t_X0_operatorInHand {X : XX} {G : GG} {ρ : Nat → Nat} {n t u w v : Nat} {d : Nat} {b : Nat} (hX : Ok X G ρ cX0_operatorInHand 2 RX0 d) (hd0 : 5 ≤ d) (hn : 126 ≤ n) (hb : isTo b) {rE : Int32} {mE : Mm} (hF : Fin' X G ρ n (some .int) (some (.int rE)) (RT t u w v (some b)) mE) {x1 : Int32} {m : Mm} (h : f_X0_operatorInHand b x1 m = some (rE, mE)) : J X G ρ n 2 0 [(0, .ref 17), (1, .int x1)] [] (RT t u w v (some b)) m := by
  unfold f_X0_operatorInHand at h
  refine J_iload_n hX dX0_operatorInHand_0 rfl 1 rfl ?_
  refine J_split h (fun c0 h => ?_) (fun c0 h => ?_)
  · refine J_tabIn hX 28 (0 : Int32) dX0_operatorInHand_1 c0 (by decide) (by decide) (by decide) (by decide) ?_
    refine J_aload_n hX dX0_operatorInHand_28 rfl 0 rfl ?_
    refine J_getR hX dX0_operatorInHand_29 fl_RX0_9 (ltn ltc_17 hn) lo_17 rfl (rt_17_0 _ _ _ _ _) ?_
    refine J_ldcS hX (k := 8) dX0_operatorInHand_32 rfl ?_
    obtain ⟨r2, m1, h0, h⟩ := bd2_some h
    refine J_callVi (As := [.ref 1008]) (st := []) hX dX0_operatorInHand_34 cw_RX0_38 (by omega) (c_X7_isWord hn p_isTx_1008 h0) (ltn ltc_1 hn) lo_1 (by decide) rfl rfl rfl (Nat.le_of_ble_eq_true rfl) ?_
    clear h0
    refine J_if_eq hX 45 dX0_operatorInHand_37 (by decide) h (fun c h => ?_) (fun c h => ?_)
    · refine J_aload_n hX dX0_operatorInHand_45 rfl 0 rfl ?_
      refine J_getR hX dX0_operatorInHand_46 fl_RX0_9 (ltn ltc_17 hn) lo_17 rfl (rt_17_0 _ _ _ _ _) ?_
      refine J_ldcS hX (k := 9) dX0_operatorInHand_49 rfl ?_
      obtain ⟨r4, m3, h0, h⟩ := bd2_some h
      refine J_callVi (As := [.ref 1009]) (st := []) hX dX0_operatorInHand_51 cw_RX0_38 (by omega) (c_X7_isWord hn p_isTx_1009 h0) (ltn ltc_1 hn) lo_1 (by decide) rfl rfl rfl (Nat.le_of_ble_eq_true rfl) ?_
      clear h0
      refine J_if_eq hX 62 dX0_operatorInHand_54 (by decide) h (fun c h => ?_) (fun c h => ?_)
      · refine J_iconst hX (-1 : Int32) dX0_operatorInHand_62 ic_m1 ?_
        exact J_ireturn hX dX0_operatorInHand_63 h hF rfl
      · refine J_bipush hX (-8 : Int32) dX0_operatorInHand_57 (by decide) ?_
        refine J_goto hX 63 dX0_operatorInHand_59 (by decide) ?_
        exact J_ireturn hX dX0_operatorInHand_63 h hF rfl
    · refine J_bipush hX (-7 : Int32) dX0_operatorInHand_40 (by decide) ?_
      refine J_goto hX 63 dX0_operatorInHand_42 (by decide) ?_
      exact J_ireturn hX dX0_operatorInHand_63 h hF rfl
  · refine J_split h (fun c1 h => ?_) (fun c1 h => ?_)
    · refine J_tabIn hX 64 (1 : Int32) dX0_operatorInHand_1 c1 (by decide) (by decide) (by decide) (by decide) ?_
      refine J_aload_n hX dX0_operatorInHand_64 rfl 0 rfl ?_
      refine J_getR hX dX0_operatorInHand_65 fl_RX0_9 (ltn ltc_17 hn) lo_17 rfl (rt_17_0 _ _ _ _ _) ?_
      refine J_bipush hX (60 : Int32) dX0_operatorInHand_68 (by decide) ?_
      obtain ⟨r6, m5, h0, h⟩ := bd2_some h
      refine J_callVi (As := [.int (60 : Int32)]) (st := []) hX dX0_operatorInHand_70 cw_RX0_130 (by omega) (c_X7_isSign hn  h0) (ltn ltc_1 hn) lo_1 (by decide) rfl rfl rfl (Nat.le_of_ble_eq_true rfl) ?_
      clear h0
      refine J_if_eq hX 81 dX0_operatorInHand_73 (by decide) h (fun c h => ?_) (fun c h => ?_)
      · refine J_aload_n hX dX0_operatorInHand_81 rfl 0 rfl ?_
        refine J_getR hX dX0_operatorInHand_82 fl_RX0_9 (ltn ltc_17 hn) lo_17 rfl (rt_17_0 _ _ _ _ _) ?_
        refine J_bipush hX (61 : Int32) dX0_operatorInHand_85 (by decide) ?_
        obtain ⟨r8, m7, h0, h⟩ := bd2_some h
        refine J_callVi (As := [.int (61 : Int32)]) (st := []) hX dX0_operatorInHand_87 cw_RX0_130 (by omega) (c_X7_isSign hn  h0) (ltn ltc_1 hn) lo_1 (by decide) rfl rfl rfl (Nat.le_of_ble_eq_true rfl) ?_
        clear h0
        refine J_if_eq hX 98 dX0_operatorInHand_90 (by decide) h (fun c h => ?_) (fun c h => ?_)
        · refine J_iconst hX (-1 : Int32) dX0_operatorInHand_98 ic_m1 ?_
          exact J_ireturn hX dX0_operatorInHand_99 h hF rfl
        · refine J_bipush hX (-10 : Int32) dX0_operatorInHand_93 (by decide) ?_
          refine J_goto hX 99 dX0_operatorInHand_95 (by decide) ?_
          exact J_ireturn hX dX0_operatorInHand_99 h hF rfl
      · refine J_bipush hX (-9 : Int32) dX0_operatorInHand_76 (by decide) ?_
        refine J_goto hX 99 dX0_operatorInHand_78 (by decide) ?_
        exact J_ireturn hX dX0_operatorInHand_99 h hF rfl
    · refine J_split h (fun c2 h => ?_) (fun c2 h => ?_)
      · refine J_tabIn hX 100 (2 : Int32) dX0_operatorInHand_1 c2 (by decide) (by decide) (by decide) (by decide) ?_
        refine J_aload_n hX dX0_operatorInHand_100 rfl 0 rfl ?_
        refine J_getR hX dX0_operatorInHand_101 fl_RX0_9 (ltn ltc_17 hn) lo_17 rfl (rt_17_0 _ _ _ _ _) ?_
        refine J_bipush hX (43 : Int32) dX0_operatorInHand_104 (by decide) ?_
        obtain ⟨r10, m9, h0, h⟩ := bd2_some h
        refine J_callVi (As := [.int (43 : Int32)]) (st := []) hX dX0_operatorInHand_106 cw_RX0_130 (by omega) (c_X7_isSign hn  h0) (ltn ltc_1 hn) lo_1 (by decide) rfl rfl rfl (Nat.le_of_ble_eq_true rfl) ?_
        clear h0
        refine J_if_eq hX 117 dX0_operatorInHand_109 (by decide) h (fun c h => ?_) (fun c h => ?_)
        · refine J_aload_n hX dX0_operatorInHand_117 rfl 0 rfl ?_
          refine J_getR hX dX0_operatorInHand_118 fl_RX0_9 (ltn ltc_17 hn) lo_17 rfl (rt_17_0 _ _ _ _ _) ?_
          refine J_bipush hX (45 : Int32) dX0_operatorInHand_121 (by decide) ?_
          obtain ⟨r12, m11, h0, h⟩ := bd2_some h
          refine J_callVi (As := [.int (45 : Int32)]) (st := []) hX dX0_operatorInHand_123 cw_RX0_130 (by omega) (c_X7_isSign hn  h0) (ltn ltc_1 hn) lo_1 (by decide) rfl rfl rfl (Nat.le_of_ble_eq_true rfl) ?_
          clear h0
          refine J_if_eq hX 134 dX0_operatorInHand_126 (by decide) h (fun c h => ?_) (fun c h => ?_)
          · refine J_iconst hX (-1 : Int32) dX0_operatorInHand_134 ic_m1 ?_
            exact J_ireturn hX dX0_operatorInHand_135 h hF rfl
          · refine J_bipush hX (-12 : Int32) dX0_operatorInHand_129 (by decide) ?_
            refine J_goto hX 135 dX0_operatorInHand_131 (by decide) ?_
            exact J_ireturn hX dX0_operatorInHand_135 h hF rfl
        · refine J_bipush hX (-11 : Int32) dX0_operatorInHand_112 (by decide) ?_
          refine J_goto hX 135 dX0_operatorInHand_114 (by decide) ?_
          exact J_ireturn hX dX0_operatorInHand_135 h hF rfl
      · refine J_tabOut hX 136 [(0 : Int32), (1 : Int32), (2 : Int32)] dX0_operatorInHand_1 (by decide) (by simp only [List.mem_cons, List.not_mem_nil, or_false, not_or]; exact ⟨c0, c1, c2⟩) (by decide) ?_
        refine J_aload_n hX dX0_operatorInHand_136 rfl 0 rfl ?_
        refine J_getR hX dX0_operatorInHand_137 fl_RX0_9 (ltn ltc_17 hn) lo_17 rfl (rt_17_0 _ _ _ _ _) ?_
        refine J_bipush hX (42 : Int32) dX0_operatorInHand_140 (by decide) ?_
        obtain ⟨r14, m13, h0, h⟩ := bd2_some h
        refine J_callVi (As := [.int (42 : Int32)]) (st := []) hX dX0_operatorInHand_142 cw_RX0_130 (by omega) (c_X7_isSign hn  h0) (ltn ltc_1 hn) lo_1 (by decide) rfl rfl rfl (Nat.le_of_ble_eq_true rfl) ?_
        clear h0
        refine J_if_eq hX 153 dX0_operatorInHand_145 (by decide) h (fun c h => ?_) (fun c h => ?_)
        · refine J_iconst hX (-1 : Int32) dX0_operatorInHand_153 ic_m1 ?_
          exact J_ireturn hX dX0_operatorInHand_154 h hF rfl
        · refine J_bipush hX (-13 : Int32) dX0_operatorInHand_148 (by decide) ?_
          refine J_goto hX 154 dX0_operatorInHand_150 (by decide) ?_
          exact J_ireturn hX dX0_operatorInHand_154 h hF rfl
theorem c_X0_operatorInHand {G : GG} {l : Launch} {ρ : Nat → Nat} {n t u w v : Nat} (hn : 126 ≤ n) {b : Nat} (hb : isTo b) {x1 : Int32} {m : Mm} {rE : Int32} {mE : Mm} (h : f_X0_operatorInHand b x1 m = some (rE, mE)) : CT G l yX0_operatorInHand cX0_operatorInHand 2 (some .int) 5 0 0 ρ n (RT t u w v (some b)) [.ref 17, .int x1] m (some (.int rE)) (RT t u w v (some b)) mE := ct_of_J (by decide) rfl (Nat.le_of_ble_eq_true rfl) (fun X hX e1 e2 e3 e4 hQ hr hl => t_X0_operatorInHand hX (Nat.le_refl _) hn hb ⟨by rw [hQ, e3, e4], hr, hl⟩ h)
theorem t_X3_add {X : XX} {G : GG} {ρ : Nat → Nat} {n t u w v : Nat} {x : Option Nat} {d : Nat} {a : Nat} (hX : Ok X G ρ cX3_add 2 RX3 d) (hd0 : 0 ≤ d) (hn : 126 ≤ n) (ha : isLw a) {mE : Mm} (hF : Fin' X G ρ n none none (RT t u w v x) mE) {x1 : Int32} {m : Mm} (h : f_X3_add a x1 m = some mE) : J X G ρ n 2 0 [(0, .ref a), (1, .int x1)] [] (RT t u w v x) m := by
  unfold f_X3_add at h
  refine J_aload_n hX dX3_add_0 rfl 0 rfl ?_
  refine J_getI hX dX3_add_1 fl_RX3_18 (ltn (lt_isLw_0 ha) hn) (lo_isLw_0 ha) rfl ?_
  refine J_aload_n hX dX3_add_4 rfl 0 rfl ?_
  refine J_getR hX dX3_add_5 fl_RX3_9 (ltn (lt_isLw_0 ha) hn) (lo_isLw_0 ha) rfl (rt_isLw_0_0 _ _ _ _ _ ha) ?_
  refine J_alen hX (1000 : Int32) dX3_add_8 (ltn (lt_isLw_1 ha) hn) (lay_isLw_1 ha) (by decide) (by decide) ?_
  refine J_icmp_ge hX 32 dX3_add_9 (by decide) h (fun c h => ?_) (fun c h => ?_)
  · refine J_aload_n hX dX3_add_12 rfl 0 rfl ?_
    refine J_getR hX dX3_add_13 fl_RX3_9 (ltn (lt_isLw_0 ha) hn) (lo_isLw_0 ha) rfl (rt_isLw_0_0 _ _ _ _ _ ha) ?_
    refine J_aload_n hX dX3_add_16 rfl 0 rfl ?_
    refine J_getI hX dX3_add_17 fl_RX3_18 (ltn (lt_isLw_0 ha) hn) (lo_isLw_0 ha) rfl ?_
    refine J_iload_n hX dX3_add_20 rfl 1 rfl ?_
    refine J_iastore hX dX3_add_21 (ltn (lt_isLw_1 ha) hn) (lay_isLw_1 ha) h (fun m1 h => ?_)
    refine J_aload_n hX dX3_add_22 rfl 0 rfl ?_
    refine J_dup hX dX3_add_23 rfl ?_
    refine J_getI hX dX3_add_24 fl_RX3_18 (ltn (lt_isLw_0 ha) hn) (lo_isLw_0 ha) rfl ?_
    refine J_iconst hX (1 : Int32) dX3_add_27 ic_1 ?_
    refine J_iadd hX dX3_add_28 ?_
    refine J_putI hX dX3_add_29 pl_RX3_18 (ltn (lt_isLw_0 ha) hn) (lo_isLw_0 ha) rfl rfl rfl h (fun m2 h => ?_)
    exact J_return hX dX3_add_32 h hF
  · exact J_return hX dX3_add_32 h hF
theorem c_X3_add {G : GG} {l : Launch} {ρ : Nat → Nat} {n t u w v : Nat} {x : Option Nat} (hn : 126 ≤ n) {a : Nat} (ha : isLw a) {x1 : Int32} {m : Mm} {mE : Mm} (h : f_X3_add a x1 m = some mE) : CT G l yX3_add cX3_add 2 none 0 0 0 ρ n (RT t u w v x) [.ref a, .int x1] m none (RT t u w v x) mE := ct_of_J (by decide) rfl (Nat.le_of_ble_eq_true rfl) (fun X hX e1 e2 e3 e4 hQ hr hl => t_X3_add hX (Nat.le_refl _) hn ha ⟨by rw [hQ, e3, e4], hr, hl⟩ h)
theorem t_X0_leafInHand {X : XX} {G : GG} {ρ : Nat → Nat} {n t u w v : Nat} {d : Nat} {b : Nat} (hX : Ok X G ρ cX0_leafInHand 1 RX0 d) (hd0 : 5 ≤ d) (hn : 126 ≤ n) (hb : isTo b) {rE : Int32} {mE : Mm} (hF : Fin' X G ρ n (some .int) (some (.int rE)) (RT t u w v (some b)) mE) {m : Mm} (h : f_X0_leafInHand b m = some (rE, mE)) : J X G ρ n 1 0 [(0, .ref 17)] [] (RT t u w v (some b)) m := by
  unfold f_X0_leafInHand at h
  refine J_aload_n hX dX0_leafInHand_0 rfl 0 rfl ?_
  refine J_getR hX dX0_leafInHand_1 fl_RX0_9 (ltn ltc_17 hn) lo_17 rfl (rt_17_0 _ _ _ _ _) ?_
  refine J_getI hX dX0_leafInHand_4 fl_RX0_33 (ltn ltc_1 hn) lo_1 rfl ?_
  refine J_iconst hX (3 : Int32) dX0_leafInHand_7 ic_3 ?_
  refine J_icmp_ne hX 19 dX0_leafInHand_8 (by decide) h (fun c h => ?_) (fun c h => ?_)
  · refine J_aload_n hX dX0_leafInHand_11 rfl 0 rfl ?_
    refine J_getR hX dX0_leafInHand_12 fl_RX0_9 (ltn ltc_17 hn) lo_17 rfl (rt_17_0 _ _ _ _ _) ?_
    refine J_getI hX dX0_leafInHand_15 fl_RX0_120 (ltn ltc_1 hn) lo_1 rfl ?_
    exact J_ireturn hX dX0_leafInHand_18 h hF rfl
  · refine J_aload_n hX dX0_leafInHand_19 rfl 0 rfl ?_
    refine J_getR hX dX0_leafInHand_20 fl_RX0_9 (ltn ltc_17 hn) lo_17 rfl (rt_17_0 _ _ _ _ _) ?_
    refine J_ldcS hX (k := 11) dX0_leafInHand_23 rfl ?_
    obtain ⟨r2, m1, h0, h⟩ := bd2_some h
    refine J_callVi (As := [.ref 1011]) (st := []) hX dX0_leafInHand_25 cw_RX0_38 (by omega) (c_X7_isWord hn p_isTx_1011 h0) (ltn ltc_1 hn) lo_1 (by decide) rfl rfl rfl (Nat.le_of_ble_eq_true rfl) ?_
    clear h0
    refine J_if_eq hX 34 dX0_leafInHand_28 (by decide) h (fun c h => ?_) (fun c h => ?_)
    · refine J_aload_n hX dX0_leafInHand_34 rfl 0 rfl ?_
      refine J_getR hX dX0_leafInHand_35 fl_RX0_9 (ltn ltc_17 hn) lo_17 rfl (rt_17_0 _ _ _ _ _) ?_
      refine J_ldcS hX (k := 12) dX0_leafInHand_38 rfl ?_
      obtain ⟨r4, m3, h0, h⟩ := bd2_some h
      refine J_callVi (As := [.ref 1012]) (st := []) hX dX0_leafInHand_40 cw_RX0_38 (by omega) (c_X7_isWord hn p_isTx_1012 h0) (ltn ltc_1 hn) lo_1 (by decide) rfl rfl rfl (Nat.le_of_ble_eq_true rfl) ?_
      clear h0
      refine J_if_eq hX 49 dX0_leafInHand_43 (by decide) h (fun c h => ?_) (fun c h => ?_)
      · refine J_aload_n hX dX0_leafInHand_49 rfl 0 rfl ?_
        refine J_getR hX dX0_leafInHand_50 fl_RX0_9 (ltn ltc_17 hn) lo_17 rfl (rt_17_0 _ _ _ _ _) ?_
        refine J_ldcS hX (k := 13) dX0_leafInHand_53 rfl ?_
        obtain ⟨r6, m5, h0, h⟩ := bd2_some h
        refine J_callVi (As := [.ref 1013]) (st := []) hX dX0_leafInHand_55 cw_RX0_38 (by omega) (c_X7_isWord hn p_isTx_1013 h0) (ltn ltc_1 hn) lo_1 (by decide) rfl rfl rfl (Nat.le_of_ble_eq_true rfl) ?_
        clear h0
        refine J_if_eq hX 64 dX0_leafInHand_58 (by decide) h (fun c h => ?_) (fun c h => ?_)
        · refine J_aload_n hX dX0_leafInHand_64 rfl 0 rfl ?_
          refine J_getR hX dX0_leafInHand_65 fl_RX0_9 (ltn ltc_17 hn) lo_17 rfl (rt_17_0 _ _ _ _ _) ?_
          refine J_ldcS hX (k := 14) dX0_leafInHand_68 rfl ?_
          obtain ⟨r8, m7, h0, h⟩ := bd2_some h
          refine J_callVi (As := [.ref 1014]) (st := []) hX dX0_leafInHand_70 cw_RX0_38 (by omega) (c_X7_isWord hn p_isTx_1014 h0) (ltn ltc_1 hn) lo_1 (by decide) rfl rfl rfl (Nat.le_of_ble_eq_true rfl) ?_
          clear h0
          refine J_if_eq hX 81 dX0_leafInHand_73 (by decide) h (fun c h => ?_) (fun c h => ?_)
          · refine J_iconst hX (-1 : Int32) dX0_leafInHand_81 ic_m1 ?_
            exact J_ireturn hX dX0_leafInHand_82 h hF rfl
          · refine J_bipush hX (-5 : Int32) dX0_leafInHand_76 (by decide) ?_
            refine J_goto hX 82 dX0_leafInHand_78 (by decide) ?_
            exact J_ireturn hX dX0_leafInHand_82 h hF rfl
        · refine J_bipush hX (-4 : Int32) dX0_leafInHand_61 (by decide) ?_
          exact J_ireturn hX dX0_leafInHand_63 h hF rfl
      · refine J_bipush hX (-3 : Int32) dX0_leafInHand_46 (by decide) ?_
        exact J_ireturn hX dX0_leafInHand_48 h hF rfl
    · refine J_bipush hX (-2 : Int32) dX0_leafInHand_31 (by decide) ?_
      exact J_ireturn hX dX0_leafInHand_33 h hF rfl
theorem c_X0_leafInHand {G : GG} {l : Launch} {ρ : Nat → Nat} {n t u w v : Nat} (hn : 126 ≤ n) {b : Nat} (hb : isTo b) {m : Mm} {rE : Int32} {mE : Mm} (h : f_X0_leafInHand b m = some (rE, mE)) : CT G l yX0_leafInHand cX0_leafInHand 1 (some .int) 5 0 0 ρ n (RT t u w v (some b)) [.ref 17] m (some (.int rE)) (RT t u w v (some b)) mE := ct_of_J (by decide) rfl (Nat.le_of_ble_eq_true rfl) (fun X hX e1 e2 e3 e4 hQ hr hl => t_X0_leafInHand hX (Nat.le_refl _) hn hb ⟨by rw [hQ, e3, e4], hr, hl⟩ h)
theorem t_X0_chain_L35 {X : XX} {G : GG} {ρ : Nat → Nat} {n t u w v : Nat} {d : Nat} {b : Nat} {F_X0_chain : Int32 → Int32 → Mm → Option (Mm)} {F_X0_part : Int32 → Mm → Option (Mm)} (hX : Ok X G ρ cX0_chain 6 RX0 d) (hd0 : 6 ≤ d) (hn : 126 ≤ n) (hb : isTo b) {dF : Nat} (hdF : dF + 1 ≤ d) (hF_X0_chain : ∀ {y0 : Int32} {y1 : Int32} {m : Mm} {mE : Mm}, F_X0_chain y0 y1 m = some mE → CT G X.1.2.1 yX0_chain cX0_chain 6 none dF 0 0 ρ n (RT t u w v (some b)) [.ref 17, .int y0, .int y1] m none (RT t u w v (some b)) mE) (hF_X0_part : ∀ {y0 : Int32} {m : Mm} {mE : Mm}, F_X0_part y0 m = some mE → CT G X.1.2.1 yX0_part cX0_part 4 none dF 0 0 ρ n (RT t u w v (some b)) [.ref 17, .int y0] m none (RT t u w v (some b)) mE) {mE : Mm} (hF : Fin' X G ρ n none none (RT t u w v (some b)) mE) : ∀ (k : Nat) (v1 : Int32) (v2 : Int32) (v3 : Int32) (v4 : Int32) (m : Mm), f_X0_chain_L35 b F_X0_chain F_X0_part k v1 v2 v3 v4 m = some mE → J X G ρ n 6 35 [(0, .ref 17), (1, .int v1), (2, .int v2), (3, .int v3), (4, .int v4)] [] (RT t u w v (some b)) m := by
  intro k
  induction k with
  | zero => intro _ _ _ _ _ h; rw [f_X0_chain_L35] at h; cases h
  | succ k ih =>
    intro v1 v2 v3 v4 m h
    rw [f_X0_chain_L35] at h
    refine J_iload hX dX0_chain_35 4 rfl ?_
    refine J_iload_n hX dX0_chain_37 rfl 3 rfl ?_
    refine J_icmp_ge hX 98 dX0_chain_38 (by decide) h (fun c h => ?_) (fun c h => ?_)
    · refine J_aload_n hX dX0_chain_41 rfl 0 rfl ?_
      refine J_getR hX dX0_chain_42 fl_RX0_9 (ltn ltc_17 hn) lo_17 rfl (rt_17_0 _ _ _ _ _) ?_
      refine J_getI hX dX0_chain_45 fl_RX0_29 (ltn ltc_1 hn) lo_1 rfl ?_
      refine J_if_ne hX 98 dX0_chain_48 (by decide) h (fun c h => ?_) (fun c h => ?_)
      · refine J_aload_n hX dX0_chain_51 rfl 0 rfl ?_
        refine J_iload_n hX dX0_chain_52 rfl 1 rfl ?_
        obtain ⟨r3, m2, h0, h⟩ := bd2_some h
        refine J_callVi (As := [.int v1]) (st := []) hX dX0_chain_53 cw_RX0_140 (by omega) (c_X0_operatorInHand hn hb h0) (ltn ltc_17 hn) lo_17 (by decide) rfl rfl rfl (Nat.le_of_ble_eq_true rfl) ?_
        clear h0
        refine J_istore hX [(5, .int r3), (0, .ref 17), (1, .int v1), (2, .int v2), (3, .int v3), (4, .int v4)] dX0_chain_56 (by decide) rfl ?_
        refine J_iload hX dX0_chain_58 0 rfl ?_
        refine J_iconst hX (-1 : Int32) dX0_chain_60 ic_m1 ?_
        refine J_icmp_ne hX 65 dX0_chain_61 (by decide) h (fun c h => ?_) (fun c h => ?_)
        · exact J_return hX dX0_chain_64 h hF
        · refine J_aload_n hX dX0_chain_65 rfl 1 rfl ?_
          refine J_getR hX dX0_chain_66 fl_RX0_9 (ltn ltc_17 hn) lo_17 rfl (rt_17_0 _ _ _ _ _) ?_
          obtain ⟨m4, h0, h⟩ := bd1_some h
          refine J_callVv (As := []) (st := []) hX dX0_chain_69 cw_RX0_66 (by omega) (c_X7_advance hn  h0) (ltn ltc_1 hn) lo_1 (by decide) rfl rfl rfl (Nat.le_of_ble_eq_true rfl) ?_
          clear h0
          refine J_aload_n hX dX0_chain_72 rfl 1 rfl ?_
          refine J_iload_n hX dX0_chain_73 rfl 2 rfl ?_
          refine J_iconst hX (1 : Int32) dX0_chain_74 ic_1 ?_
          refine J_iadd hX dX0_chain_75 ?_
          refine J_iload_n hX dX0_chain_76 rfl 3 rfl ?_
          obtain ⟨m5, h0, h⟩ := bd1_some h
          refine J_callVv (As := [.int (v1 + (1 : Int32)), .int v2]) (st := []) hX dX0_chain_77 cw_RX0_88 (by omega) (hF_X0_chain h0) (ltn ltc_17 hn) lo_17 (by decide) rfl rfl rfl (Nat.le_of_ble_eq_true rfl) ?_
          clear h0
          refine J_aload_n hX dX0_chain_80 rfl 1 rfl ?_
          refine J_getR hX dX0_chain_81 fl_RX0_15 (ltn ltc_17 hn) lo_17 rfl (rt_17_1 _ _ _ _ _) ?_
          refine J_getR hX dX0_chain_84 fl_RX0_79 (ltn (lt_isTo_0 hb) hn) (lo_isTo_0 hb) rfl (rt_isTo_0_6 _ _ _ _ _ hb) ?_
          refine J_iload hX dX0_chain_87 0 rfl ?_
          obtain ⟨m6, h0, h⟩ := bd1_some h
          refine J_callVv (As := [.int r3]) (st := []) hX dX0_chain_89 cw_RX0_143 (by omega) (c_X3_add hn (isLw_isTo hb) h0) (ltn (lt_isTo_4 hb) hn) (lo_isTo_4 hb) (by decide) rfl rfl rfl (Nat.le_of_ble_eq_true rfl) ?_
          clear h0
          refine J_iinc hX (v4 + (1 : Int32)) [(4, .int (v4 + (1 : Int32))), (5, .int r3), (0, .ref 17), (1, .int v1), (2, .int v2), (3, .int v3)] dX0_chain_92 5 rfl (congrArg (fun z => v4 + z) ic_1) (by decide) rfl ?_
          refine J_goto hX 35 dX0_chain_95 (by decide) ?_
          refine J_sub [(0, .ref 17), (1, .int v1), (2, .int v2), (3, .int v3), (4, .int (v4 + (1 : Int32)))] [2, 3, 4, 5, 0] rfl ?_
          exact ih v1 v2 v3 (v4 + (1 : Int32)) m6 h
      · exact J_return hX dX0_chain_98 h hF
    · exact J_return hX dX0_chain_98 h hF
theorem t_X0_chain_J31 {X : XX} {G : GG} {ρ : Nat → Nat} {n t u w v : Nat} {d : Nat} {b : Nat} {F_X0_chain : Int32 → Int32 → Mm → Option (Mm)} {F_X0_part : Int32 → Mm → Option (Mm)} (hX : Ok X G ρ cX0_chain 6 RX0 d) (hd0 : 6 ≤ d) (hn : 126 ≤ n) (hb : isTo b) {dF : Nat} (hdF : dF + 1 ≤ d) (hF_X0_chain : ∀ {y0 : Int32} {y1 : Int32} {m : Mm} {mE : Mm}, F_X0_chain y0 y1 m = some mE → CT G X.1.2.1 yX0_chain cX0_chain 6 none dF 0 0 ρ n (RT t u w v (some b)) [.ref 17, .int y0, .int y1] m none (RT t u w v (some b)) mE) (hF_X0_part : ∀ {y0 : Int32} {m : Mm} {mE : Mm}, F_X0_part y0 m = some mE → CT G X.1.2.1 yX0_part cX0_part 4 none dF 0 0 ρ n (RT t u w v (some b)) [.ref 17, .int y0] m none (RT t u w v (some b)) mE) {mE : Mm} (hF : Fin' X G ρ n none none (RT t u w v (some b)) mE) (v1 : Int32) (v2 : Int32) (s0 : Int32) (m : Mm) (h : f_X0_chain_J31 b F_X0_chain F_X0_part v1 v2 s0 m = some mE) : J X G ρ n 6 31 [(0, .ref 17), (1, .int v1), (2, .int v2)] [.int s0] (RT t u w v (some b)) m := by
  unfold f_X0_chain_J31 at h
  refine J_istore_n hX [(3, .int s0), (0, .ref 17), (1, .int v1), (2, .int v2)] dX0_chain_31 rfl (by decide) rfl ?_
  refine J_iconst hX (0 : Int32) dX0_chain_32 ic_0 ?_
  refine J_istore hX [(4, .int (0 : Int32)), (3, .int s0), (0, .ref 17), (1, .int v1), (2, .int v2)] dX0_chain_33 (by decide) rfl ?_
  refine J_sub [(0, .ref 17), (1, .int v1), (2, .int v2), (3, .int s0), (4, .int (0 : Int32))] [2, 3, 4, 1, 0] rfl ?_
  exact t_X0_chain_L35 hX hd0 hn hb hdF hF_X0_chain hF_X0_part hF FU v1 v2 s0 (0 : Int32)  m h
theorem t_X0_chain {X : XX} {G : GG} {ρ : Nat → Nat} {n t u w v : Nat} {d : Nat} {b : Nat} {F_X0_chain : Int32 → Int32 → Mm → Option (Mm)} {F_X0_part : Int32 → Mm → Option (Mm)} (hX : Ok X G ρ cX0_chain 6 RX0 d) (hd0 : 6 ≤ d) (hn : 126 ≤ n) (hb : isTo b) {dF : Nat} (hdF : dF + 1 ≤ d) (hF_X0_chain : ∀ {y0 : Int32} {y1 : Int32} {m : Mm} {mE : Mm}, F_X0_chain y0 y1 m = some mE → CT G X.1.2.1 yX0_chain cX0_chain 6 none dF 0 0 ρ n (RT t u w v (some b)) [.ref 17, .int y0, .int y1] m none (RT t u w v (some b)) mE) (hF_X0_part : ∀ {y0 : Int32} {m : Mm} {mE : Mm}, F_X0_part y0 m = some mE → CT G X.1.2.1 yX0_part cX0_part 4 none dF 0 0 ρ n (RT t u w v (some b)) [.ref 17, .int y0] m none (RT t u w v (some b)) mE) {mE : Mm} (hF : Fin' X G ρ n none none (RT t u w v (some b)) mE) {x1 : Int32} {x2 : Int32} {m : Mm} (h : f_X0_chain b F_X0_chain F_X0_part x1 x2 m = some mE) : J X G ρ n 6 0 [(0, .ref 17), (1, .int x1), (2, .int x2)] [] (RT t u w v (some b)) m := by
  unfold f_X0_chain at h
  refine J_iload_n hX dX0_chain_0 rfl 1 rfl ?_
  refine J_iconst hX (4 : Int32) dX0_chain_1 ic_4 ?_
  refine J_icmp_lt hX 11 dX0_chain_2 (by decide) h (fun c h => ?_) (fun c h => ?_)
  · refine J_aload_n hX dX0_chain_11 rfl 0 rfl ?_
    refine J_iload_n hX dX0_chain_12 rfl 1 rfl ?_
    refine J_iconst hX (1 : Int32) dX0_chain_13 ic_1 ?_
    refine J_iadd hX dX0_chain_14 ?_
    refine J_iload_n hX dX0_chain_15 rfl 2 rfl ?_
    obtain ⟨m1, h0, h⟩ := bd1_some h
    refine J_callVv (As := [.int (x1 + (1 : Int32)), .int x2]) (st := []) hX dX0_chain_16 cw_RX0_88 (by omega) (hF_X0_chain h0) (ltn ltc_17 hn) lo_17 (by decide) rfl rfl rfl (Nat.le_of_ble_eq_true rfl) ?_
    clear h0
    refine J_iload_n hX dX0_chain_19 rfl 1 rfl ?_
    refine J_iconst hX (1 : Int32) dX0_chain_20 ic_1 ?_
    refine J_icmp_ne hX 28 dX0_chain_21 (by decide) h (fun c h => ?_) (fun c h => ?_)
    · refine J_iconst hX (1 : Int32) dX0_chain_24 ic_1 ?_
      refine J_goto hX 31 dX0_chain_25 (by decide) ?_
      exact t_X0_chain_J31 hX hd0 hn hb hdF hF_X0_chain hF_X0_part hF x1 x2 (1 : Int32) m1 h
    · refine J_sipush hX (1000 : Int32) dX0_chain_28 (by decide) ?_
      exact t_X0_chain_J31 hX hd0 hn hb hdF hF_X0_chain hF_X0_part hF x1 x2 (1000 : Int32) m1 h
  · refine J_aload_n hX dX0_chain_5 rfl 0 rfl ?_
    refine J_iload_n hX dX0_chain_6 rfl 2 rfl ?_
    obtain ⟨m7, h0, h⟩ := bd1_some h
    refine J_callVv (As := [.int x2]) (st := []) hX dX0_chain_7 cw_RX0_137 (by omega) (hF_X0_part h0) (ltn ltc_17 hn) lo_17 (by decide) rfl rfl rfl (Nat.le_of_ble_eq_true rfl) ?_
    clear h0
    exact J_return hX dX0_chain_10 h hF
theorem t_X0_part_J58 {X : XX} {G : GG} {ρ : Nat → Nat} {n t u w v : Nat} {d : Nat} {b : Nat} {F_X0_chain : Int32 → Int32 → Mm → Option (Mm)} {F_X0_part : Int32 → Mm → Option (Mm)} (hX : Ok X G ρ cX0_part 4 RX0 d) (hd0 : 6 ≤ d) (hn : 126 ≤ n) (hb : isTo b) {dF : Nat} (hdF : dF + 1 ≤ d) (hF_X0_chain : ∀ {y0 : Int32} {y1 : Int32} {m : Mm} {mE : Mm}, F_X0_chain y0 y1 m = some mE → CT G X.1.2.1 yX0_chain cX0_chain 6 none dF 0 0 ρ n (RT t u w v (some b)) [.ref 17, .int y0, .int y1] m none (RT t u w v (some b)) mE) (hF_X0_part : ∀ {y0 : Int32} {m : Mm} {mE : Mm}, F_X0_part y0 m = some mE → CT G X.1.2.1 yX0_part cX0_part 4 none dF 0 0 ρ n (RT t u w v (some b)) [.ref 17, .int y0] m none (RT t u w v (some b)) mE) {mE : Mm} (hF : Fin' X G ρ n none none (RT t u w v (some b)) mE) (v1 : Int32) (v2 : Int32) (v3 : Int32) (m : Mm) (h : f_X0_part_J58 b F_X0_chain F_X0_part v1 v2 v3 m = some mE) : J X G ρ n 4 58 [(0, .ref 17), (1, .int v1), (2, .int v2), (3, .int v3)] [] (RT t u w v (some b)) m := by
  unfold f_X0_part_J58 at h
  refine J_iload_n hX dX0_part_58 rfl 1 rfl ?_
  refine J_iconst hX (5 : Int32) dX0_part_59 ic_5 ?_
  refine J_icmp_lt hX 74 dX0_part_60 (by decide) h (fun c h => ?_) (fun c h => ?_)
  · refine J_iload_n hX dX0_part_74 rfl 3 rfl ?_
    refine J_if_eq hX 107 dX0_part_75 (by decide) h (fun c h => ?_) (fun c h => ?_)
    · refine J_iload_n hX dX0_part_107 rfl 2 rfl ?_
      refine J_iconst hX (-1 : Int32) dX0_part_108 ic_m1 ?_
      refine J_icmp_ne hX 139 dX0_part_109 (by decide) h (fun c h => ?_) (fun c h => ?_)
      · refine J_aload_n hX dX0_part_112 rfl 0 rfl ?_
        refine J_getR hX dX0_part_113 fl_RX0_9 (ltn ltc_17 hn) lo_17 rfl (rt_17_0 _ _ _ _ _) ?_
        obtain ⟨m7, h0, h⟩ := bd1_some h
        refine J_callVv (As := []) (st := []) hX dX0_part_116 cw_RX0_66 (by omega) (c_X7_advance hn  h0) (ltn ltc_1 hn) lo_1 (by decide) rfl rfl rfl (Nat.le_of_ble_eq_true rfl) ?_
        clear h0
        refine J_aload_n hX dX0_part_119 rfl 0 rfl ?_
        refine J_iconst hX (0 : Int32) dX0_part_120 ic_0 ?_
        refine J_iload_n hX dX0_part_121 rfl 1 rfl ?_
        refine J_iconst hX (1 : Int32) dX0_part_122 ic_1 ?_
        refine J_iadd hX dX0_part_123 ?_
        obtain ⟨m8, h0, h⟩ := bd1_some h
        refine J_callVv (As := [.int (0 : Int32), .int (v1 + (1 : Int32))]) (st := []) hX dX0_part_124 cw_RX0_88 (by omega) (hF_X0_chain h0) (ltn ltc_17 hn) lo_17 (by decide) rfl rfl rfl (Nat.le_of_ble_eq_true rfl) ?_
        clear h0
        refine J_aload_n hX dX0_part_127 rfl 0 rfl ?_
        refine J_getR hX dX0_part_128 fl_RX0_9 (ltn ltc_17 hn) lo_17 rfl (rt_17_0 _ _ _ _ _) ?_
        refine J_bipush hX (41 : Int32) dX0_part_131 (by decide) ?_
        obtain ⟨m9, h0, h⟩ := bd1_some h
        refine J_callVv (As := [.int (41 : Int32)]) (st := []) hX dX0_part_133 cw_RX0_73 (by omega) (c_X7_pass hn  h0) (ltn ltc_1 hn) lo_1 (by decide) rfl rfl rfl (Nat.le_of_ble_eq_true rfl) ?_
        clear h0
        refine J_goto hX 157 dX0_part_136 (by decide) ?_
        exact J_return hX dX0_part_157 h hF
      · refine J_aload_n hX dX0_part_139 rfl 0 rfl ?_
        refine J_getR hX dX0_part_140 fl_RX0_15 (ltn ltc_17 hn) lo_17 rfl (rt_17_1 _ _ _ _ _) ?_
        refine J_getR hX dX0_part_143 fl_RX0_79 (ltn (lt_isTo_0 hb) hn) (lo_isTo_0 hb) rfl (rt_isTo_0_6 _ _ _ _ _ hb) ?_
        refine J_iload_n hX dX0_part_146 rfl 2 rfl ?_
        obtain ⟨m5, h0, h⟩ := bd1_some h
        refine J_callVv (As := [.int v2]) (st := []) hX dX0_part_147 cw_RX0_143 (by omega) (c_X3_add hn (isLw_isTo hb) h0) (ltn (lt_isTo_4 hb) hn) (lo_isTo_4 hb) (by decide) rfl rfl rfl (Nat.le_of_ble_eq_true rfl) ?_
        clear h0
        refine J_aload_n hX dX0_part_150 rfl 0 rfl ?_
        refine J_getR hX dX0_part_151 fl_RX0_9 (ltn ltc_17 hn) lo_17 rfl (rt_17_0 _ _ _ _ _) ?_
        obtain ⟨m6, h0, h⟩ := bd1_some h
        refine J_callVv (As := []) (st := []) hX dX0_part_154 cw_RX0_66 (by omega) (c_X7_advance hn  h0) (ltn ltc_1 hn) lo_1 (by decide) rfl rfl rfl (Nat.le_of_ble_eq_true rfl) ?_
        clear h0
        exact J_return hX dX0_part_157 h hF
    · refine J_aload_n hX dX0_part_78 rfl 0 rfl ?_
      refine J_getR hX dX0_part_79 fl_RX0_9 (ltn ltc_17 hn) lo_17 rfl (rt_17_0 _ _ _ _ _) ?_
      obtain ⟨m10, h0, h⟩ := bd1_some h
      refine J_callVv (As := []) (st := []) hX dX0_part_82 cw_RX0_66 (by omega) (c_X7_advance hn  h0) (ltn ltc_1 hn) lo_1 (by decide) rfl rfl rfl (Nat.le_of_ble_eq_true rfl) ?_
      clear h0
      refine J_aload_n hX dX0_part_85 rfl 0 rfl ?_
      refine J_iload_n hX dX0_part_86 rfl 1 rfl ?_
      refine J_iconst hX (1 : Int32) dX0_part_87 ic_1 ?_
      refine J_iadd hX dX0_part_88 ?_
      obtain ⟨m11, h0, h⟩ := bd1_some h
      refine J_callVv (As := [.int (v1 + (1 : Int32))]) (st := []) hX dX0_part_89 cw_RX0_137 (by omega) (hF_X0_part h0) (ltn ltc_17 hn) lo_17 (by decide) rfl rfl rfl (Nat.le_of_ble_eq_true rfl) ?_
      clear h0
      refine J_aload_n hX dX0_part_92 rfl 0 rfl ?_
      refine J_getR hX dX0_part_93 fl_RX0_15 (ltn ltc_17 hn) lo_17 rfl (rt_17_1 _ _ _ _ _) ?_
      refine J_getR hX dX0_part_96 fl_RX0_79 (ltn (lt_isTo_0 hb) hn) (lo_isTo_0 hb) rfl (rt_isTo_0_6 _ _ _ _ _ hb) ?_
      refine J_bipush hX (-6 : Int32) dX0_part_99 (by decide) ?_
      obtain ⟨m12, h0, h⟩ := bd1_some h
      refine J_callVv (As := [.int (-6 : Int32)]) (st := []) hX dX0_part_101 cw_RX0_143 (by omega) (c_X3_add hn (isLw_isTo hb) h0) (ltn (lt_isTo_4 hb) hn) (lo_isTo_4 hb) (by decide) rfl rfl rfl (Nat.le_of_ble_eq_true rfl) ?_
      clear h0
      refine J_goto hX 157 dX0_part_104 (by decide) ?_
      exact J_return hX dX0_part_157 h hF
  · refine J_aload_n hX dX0_part_63 rfl 0 rfl ?_
    refine J_getR hX dX0_part_64 fl_RX0_9 (ltn ltc_17 hn) lo_17 rfl (rt_17_0 _ _ _ _ _) ?_
    refine J_iconst hX (5 : Int32) dX0_part_67 ic_5 ?_
    obtain ⟨m13, h0, h⟩ := bd1_some h
    refine J_callVv (As := [.int (5 : Int32)]) (st := []) hX dX0_part_68 cw_RX0_60 (by omega) (c_X7_fail hn  h0) (ltn ltc_1 hn) lo_1 (by decide) rfl rfl rfl (Nat.le_of_ble_eq_true rfl) ?_
    clear h0
    refine J_goto hX 157 dX0_part_71 (by decide) ?_
    exact J_return hX dX0_part_157 h hF
theorem t_X0_part {X : XX} {G : GG} {ρ : Nat → Nat} {n t u w v : Nat} {d : Nat} {b : Nat} {F_X0_chain : Int32 → Int32 → Mm → Option (Mm)} {F_X0_part : Int32 → Mm → Option (Mm)} (hX : Ok X G ρ cX0_part 4 RX0 d) (hd0 : 6 ≤ d) (hn : 126 ≤ n) (hb : isTo b) {dF : Nat} (hdF : dF + 1 ≤ d) (hF_X0_chain : ∀ {y0 : Int32} {y1 : Int32} {m : Mm} {mE : Mm}, F_X0_chain y0 y1 m = some mE → CT G X.1.2.1 yX0_chain cX0_chain 6 none dF 0 0 ρ n (RT t u w v (some b)) [.ref 17, .int y0, .int y1] m none (RT t u w v (some b)) mE) (hF_X0_part : ∀ {y0 : Int32} {m : Mm} {mE : Mm}, F_X0_part y0 m = some mE → CT G X.1.2.1 yX0_part cX0_part 4 none dF 0 0 ρ n (RT t u w v (some b)) [.ref 17, .int y0] m none (RT t u w v (some b)) mE) {mE : Mm} (hF : Fin' X G ρ n none none (RT t u w v (some b)) mE) {x1 : Int32} {m : Mm} (h : f_X0_part b F_X0_chain F_X0_part x1 m = some mE) : J X G ρ n 4 0 [(0, .ref 17), (1, .int x1)] [] (RT t u w v (some b)) m := by
  unfold f_X0_part at h
  refine J_aload_n hX dX0_part_0 rfl 0 rfl ?_
  refine J_getR hX dX0_part_1 fl_RX0_9 (ltn ltc_17 hn) lo_17 rfl (rt_17_0 _ _ _ _ _) ?_
  refine J_getI hX dX0_part_4 fl_RX0_29 (ltn ltc_1 hn) lo_1 rfl ?_
  refine J_if_eq hX 11 dX0_part_7 (by decide) h (fun c h => ?_) (fun c h => ?_)
  · refine J_aload_n hX dX0_part_11 rfl 0 rfl ?_
    obtain ⟨r2, m1, h0, h⟩ := bd2_some h
    refine J_callVi (As := []) (st := []) hX dX0_part_12 cw_RX0_150 (by omega) (c_X0_leafInHand hn hb h0) (ltn ltc_17 hn) lo_17 (by decide) rfl rfl rfl (Nat.le_of_ble_eq_true rfl) ?_
    clear h0
    refine J_istore_n hX [(2, .int r2), (0, .ref 17), (1, .int x1)] dX0_part_15 rfl (by decide) rfl ?_
    refine J_aload_n hX dX0_part_16 rfl 1 rfl ?_
    refine J_getR hX dX0_part_17 fl_RX0_9 (ltn ltc_17 hn) lo_17 rfl (rt_17_0 _ _ _ _ _) ?_
    refine J_ldcS hX (k := 10) dX0_part_20 rfl ?_
    obtain ⟨r4, m3, h0, h⟩ := bd2_some h
    refine J_callVi (As := [.ref 1010]) (st := []) hX dX0_part_22 cw_RX0_38 (by omega) (c_X7_isWord hn p_isTx_1010 h0) (ltn ltc_1 hn) lo_1 (by decide) rfl rfl rfl (Nat.le_of_ble_eq_true rfl) ?_
    clear h0
    refine J_istore_n hX [(3, .int r4), (2, .int r2), (0, .ref 17), (1, .int x1)] dX0_part_25 rfl (by decide) rfl ?_
    refine J_iload_n hX dX0_part_26 rfl 1 rfl ?_
    refine J_iconst hX (-1 : Int32) dX0_part_27 ic_m1 ?_
    refine J_icmp_ne hX 58 dX0_part_28 (by decide) h (fun c h => ?_) (fun c h => ?_)
    · refine J_iload_n hX dX0_part_31 rfl 0 rfl ?_
      refine J_if_ne hX 58 dX0_part_32 (by decide) h (fun c h => ?_) (fun c h => ?_)
      · refine J_aload_n hX dX0_part_35 rfl 2 rfl ?_
        refine J_getR hX dX0_part_36 fl_RX0_9 (ltn ltc_17 hn) lo_17 rfl (rt_17_0 _ _ _ _ _) ?_
        refine J_bipush hX (40 : Int32) dX0_part_39 (by decide) ?_
        obtain ⟨r15, m14, h0, h⟩ := bd2_some h
        refine J_callVi (As := [.int (40 : Int32)]) (st := []) hX dX0_part_41 cw_RX0_130 (by omega) (c_X7_isSign hn  h0) (ltn ltc_1 hn) lo_1 (by decide) rfl rfl rfl (Nat.le_of_ble_eq_true rfl) ?_
        clear h0
        refine J_if_ne hX 58 dX0_part_44 (by decide) h (fun c h => ?_) (fun c h => ?_)
        · refine J_aload_n hX dX0_part_47 rfl 2 rfl ?_
          refine J_getR hX dX0_part_48 fl_RX0_9 (ltn ltc_17 hn) lo_17 rfl (rt_17_0 _ _ _ _ _) ?_
          refine J_iconst hX (1 : Int32) dX0_part_51 ic_1 ?_
          obtain ⟨m16, h0, h⟩ := bd1_some h
          refine J_callVv (As := [.int (1 : Int32)]) (st := []) hX dX0_part_52 cw_RX0_60 (by omega) (c_X7_fail hn  h0) (ltn ltc_1 hn) lo_1 (by decide) rfl rfl rfl (Nat.le_of_ble_eq_true rfl) ?_
          clear h0
          refine J_goto hX 157 dX0_part_55 (by decide) ?_
          exact J_return hX dX0_part_157 h hF
        · refine J_sub [(0, .ref 17), (1, .int x1), (2, .int r2), (3, .int r4)] [2, 3, 1, 0] rfl ?_
          exact t_X0_part_J58 hX hd0 hn hb hdF hF_X0_chain hF_X0_part hF x1 r2 r4  m14 h
      · refine J_sub [(0, .ref 17), (1, .int x1), (2, .int r2), (3, .int r4)] [2, 3, 1, 0] rfl ?_
        exact t_X0_part_J58 hX hd0 hn hb hdF hF_X0_chain hF_X0_part hF x1 r2 r4  m3 h
    · refine J_sub [(0, .ref 17), (1, .int x1), (2, .int r2), (3, .int r4)] [2, 3, 1, 0] rfl ?_
      exact t_X0_part_J58 hX hd0 hn hb hdF hF_X0_chain hF_X0_part hF x1 r2 r4  m3 h
  · exact J_return hX dX0_part_10 h hF
theorem cfr_X0_chain_X0_part {G : GG} {l : Launch} {ρ : Nat → Nat} {n t u w v : Nat} (hn : 126 ≤ n) {b : Nat} (hb : isTo b) : ∀ k : Nat, (∀ {y0 : Int32} {y1 : Int32} {m : Mm} {mE : Mm}, ((fr_X0_chain_X0_part b k).1) y0 y1 m = some mE → CT G l yX0_chain cX0_chain 6 none (6 + k) 0 0 ρ n (RT t u w v (some b)) [.ref 17, .int y0, .int y1] m none (RT t u w v (some b)) mE) ∧ (∀ {y0 : Int32} {m : Mm} {mE : Mm}, ((fr_X0_chain_X0_part b k).2) y0 m = some mE → CT G l yX0_part cX0_part 4 none (6 + k) 0 0 ρ n (RT t u w v (some b)) [.ref 17, .int y0] m none (RT t u w v (some b)) mE) := by
  intro k
  induction k with
  | zero => exact ⟨(fun h => by cases h), (fun h => by cases h)⟩
  | succ k ih => exact ⟨(fun h => ct_of_J (by decide) rfl (Nat.le_of_ble_eq_true rfl) (fun X hX e1 e2 e3 e4 hQ hr hl => t_X0_chain hX (by omega) hn hb (by show 6 + k + 1 ≤ 6 + (k + 1); omega) (fun h => by rw [e2]; exact ih.1 h) (fun h => by rw [e2]; exact ih.2 h) ⟨by rw [hQ, e3, e4], hr, hl⟩ h)), (fun h => ct_of_J (by decide) rfl (Nat.le_of_ble_eq_true rfl) (fun X hX e1 e2 e3 e4 hQ hr hl => t_X0_part hX (by omega) hn hb (by show 6 + k + 1 ≤ 6 + (k + 1); omega) (fun h => by rw [e2]; exact ih.1 h) (fun h => by rw [e2]; exact ih.2 h) ⟨by rw [hQ, e3, e4], hr, hl⟩ h))⟩
theorem c_X0_chain_r {G : GG} {l : Launch} {ρ : Nat → Nat} {n t u w v : Nat} (hn : 126 ≤ n) {b : Nat} (hb : isTo b) : ∀ {y0 : Int32} {y1 : Int32} {m : Mm} {mE : Mm}, (f_X0_chain_r b) y0 y1 m = some mE → CT G l yX0_chain cX0_chain 6 none 70 0 0 ρ n (RT t u w v (some b)) [.ref 17, .int y0, .int y1] m none (RT t u w v (some b)) mE := fun h => (cfr_X0_chain_X0_part hn hb 64).1 h
theorem c_X0_part_r {G : GG} {l : Launch} {ρ : Nat → Nat} {n t u w v : Nat} (hn : 126 ≤ n) {b : Nat} (hb : isTo b) : ∀ {y0 : Int32} {m : Mm} {mE : Mm}, (f_X0_part_r b) y0 m = some mE → CT G l yX0_part cX0_part 4 none 70 0 0 ρ n (RT t u w v (some b)) [.ref 17, .int y0] m none (RT t u w v (some b)) mE := fun h => (cfr_X0_chain_X0_part hn hb 64).2 h
theorem t_X8_clear {X : XX} {G : GG} {ρ : Nat → Nat} {n t u w v : Nat} {x : Option Nat} {d : Nat} {a : Nat} (hX : Ok X G ρ cX8_clear 1 RX8 d) (hd0 : 0 ≤ d) (hn : 126 ≤ n) (ha : isTo a) {mE : Mm} (hF : Fin' X G ρ n none none (RT t u w v x) mE) {m : Mm} (h : f_X8_clear a m = some mE) : J X G ρ n 1 0 [(0, .ref a)] [] (RT t u w v x) m := by
  unfold f_X8_clear at h
  refine J_aload_n hX dX8_clear_0 rfl 0 rfl ?_
  refine J_iconst hX (0 : Int32) dX8_clear_1 ic_0 ?_
  refine J_putI hX dX8_clear_2 pl_RX8_28 (ltn (lt_isTo_0 ha) hn) (lo_isTo_0 ha) rfl rfl rfl h (fun m1 h => ?_)
  refine J_aload_n hX dX8_clear_5 rfl 0 rfl ?_
  refine J_iconst hX (0 : Int32) dX8_clear_6 ic_0 ?_
  refine J_putI hX dX8_clear_7 pl_RX8_32 (ltn (lt_isTo_0 ha) hn) (lo_isTo_0 ha) rfl rfl rfl h (fun m2 h => ?_)
  refine J_aload_n hX dX8_clear_10 rfl 0 rfl ?_
  refine J_iconst hX (0 : Int32) dX8_clear_11 ic_0 ?_
  refine J_putI hX dX8_clear_12 pl_RX8_35 (ltn (lt_isTo_0 ha) hn) (lo_isTo_0 ha) rfl rfl rfl h (fun m3 h => ?_)
  refine J_aload_n hX dX8_clear_15 rfl 0 rfl ?_
  refine J_getR hX dX8_clear_16 fl_RX8_24 (ltn (lt_isTo_0 ha) hn) (lo_isTo_0 ha) rfl (rt_isTo_0_6 _ _ _ _ _ ha) ?_
  refine J_iconst hX (0 : Int32) dX8_clear_19 ic_0 ?_
  refine J_putI hX dX8_clear_20 pl_RX8_38 (ltn (lt_isTo_4 ha) hn) (lo_isTo_4 ha) rfl rfl rfl h (fun m4 h => ?_)
  exact J_return hX dX8_clear_23 h hF
theorem c_X8_clear {G : GG} {l : Launch} {ρ : Nat → Nat} {n t u w v : Nat} {x : Option Nat} (hn : 126 ≤ n) {a : Nat} (ha : isTo a) {m : Mm} {mE : Mm} (h : f_X8_clear a m = some mE) : CT G l yX8_clear cX8_clear 1 none 0 0 0 ρ n (RT t u w v x) [.ref a] m none (RT t u w v x) mE := ct_of_J (by decide) rfl (Nat.le_of_ble_eq_true rfl) (fun X hX e1 e2 e3 e4 hQ hr hl => t_X8_clear hX (Nat.le_refl _) hn ha ⟨by rw [hQ, e3, e4], hr, hl⟩ h)
theorem t_X7_rewind {X : XX} {G : GG} {ρ : Nat → Nat} {n t u w v : Nat} {x : Option Nat} {d : Nat} (hX : Ok X G ρ cX7_rewind 1 RX7 d) (hd0 : 5 ≤ d) (hn : 126 ≤ n) {mE : Mm} (hF : Fin' X G ρ n none none (RT t u w v x) mE) {m : Mm} (h : f_X7_rewind m = some mE) : J X G ρ n 1 0 [(0, .ref 1)] [] (RT t u w v x) m := by
  unfold f_X7_rewind at h
  refine J_aload_n hX dX7_rewind_0 rfl 0 rfl ?_
  refine J_iconst hX (0 : Int32) dX7_rewind_1 ic_0 ?_
  refine J_putI hX dX7_rewind_2 pl_RX7_19 (ltn ltc_1 hn) lo_1 rfl rfl rfl h (fun m1 h => ?_)
  refine J_aload_n hX dX7_rewind_5 rfl 0 rfl ?_
  refine J_iconst hX (0 : Int32) dX7_rewind_6 ic_0 ?_
  refine J_putI hX dX7_rewind_7 pl_RX7_22 (ltn ltc_1 hn) lo_1 rfl rfl rfl h (fun m2 h => ?_)
  refine J_aload_n hX dX7_rewind_10 rfl 0 rfl ?_
  obtain ⟨m3, h0, h⟩ := bd1_some h
  refine J_callVv (As := []) (st := []) hX dX7_rewind_11 cw_RX7_25 (by omega) (c_X7_advance hn  h0) (ltn ltc_1 hn) lo_1 (by decide) rfl rfl rfl (Nat.le_of_ble_eq_true rfl) ?_
  clear h0
  exact J_return hX dX7_rewind_14 h hF
theorem c_X7_rewind {G : GG} {l : Launch} {ρ : Nat → Nat} {n t u w v : Nat} {x : Option Nat} (hn : 126 ≤ n) {m : Mm} {mE : Mm} (h : f_X7_rewind m = some mE) : CT G l yX7_rewind cX7_rewind 1 none 5 0 0 ρ n (RT t u w v x) [.ref 1] m none (RT t u w v x) mE := ct_of_J (by decide) rfl (Nat.le_of_ble_eq_true rfl) (fun X hX e1 e2 e3 e4 hQ hr hl => t_X7_rewind hX (Nat.le_refl _) hn ⟨by rw [hQ, e3, e4], hr, hl⟩ h)
theorem t_X0_disksLine {X : XX} {G : GG} {ρ : Nat → Nat} {n t u w v : Nat} {d : Nat} {b : Nat} (hX : Ok X G ρ cX0_disksLine 1 RX0 d) (hd0 : 6 ≤ d) (hn : 126 ≤ n) (hb : isTo b) {mE : Mm} (hF : Fin' X G ρ n none none (RT t u w v (some b)) mE) {m : Mm} (h : f_X0_disksLine b m = some mE) : J X G ρ n 1 0 [(0, .ref 17)] [] (RT t u w v (some b)) m := by
  unfold f_X0_disksLine at h
  refine J_aload_n hX dX0_disksLine_0 rfl 0 rfl ?_
  refine J_getR hX dX0_disksLine_1 fl_RX0_15 (ltn ltc_17 hn) lo_17 rfl (rt_17_1 _ _ _ _ _) ?_
  refine J_getI hX dX0_disksLine_4 fl_RX0_64 (ltn (lt_isTo_0 hb) hn) (lo_isTo_0 hb) rfl ?_
  refine J_if_eq hX 19 dX0_disksLine_7 (by decide) h (fun c h => ?_) (fun c h => ?_)
  · refine J_aload_n hX dX0_disksLine_19 rfl 0 rfl ?_
    refine J_getR hX dX0_disksLine_20 fl_RX0_9 (ltn ltc_17 hn) lo_17 rfl (rt_17_0 _ _ _ _ _) ?_
    obtain ⟨m1, h0, h⟩ := bd1_some h
    refine J_callVv (As := []) (st := []) hX dX0_disksLine_23 cw_RX0_66 (by omega) (c_X7_advance hn  h0) (ltn ltc_1 hn) lo_1 (by decide) rfl rfl rfl (Nat.le_of_ble_eq_true rfl) ?_
    clear h0
    refine J_aload_n hX dX0_disksLine_26 rfl 0 rfl ?_
    refine J_getR hX dX0_disksLine_27 fl_RX0_15 (ltn ltc_17 hn) lo_17 rfl (rt_17_1 _ _ _ _ _) ?_
    refine J_aload_n hX dX0_disksLine_30 rfl 0 rfl ?_
    refine J_getR hX dX0_disksLine_31 fl_RX0_9 (ltn ltc_17 hn) lo_17 rfl (rt_17_0 _ _ _ _ _) ?_
    refine J_iconst hX (2 : Int32) dX0_disksLine_34 ic_2 ?_
    refine J_bipush hX (13 : Int32) dX0_disksLine_35 (by decide) ?_
    obtain ⟨r3, m2, h0, h⟩ := bd2_some h
    refine J_callVi (As := [.int (2 : Int32), .int (13 : Int32)]) (st := [.ref b]) hX dX0_disksLine_37 cw_RX0_69 (by omega) (c_X7_numberWithin hn  h0) (ltn ltc_1 hn) lo_1 (by decide) rfl rfl rfl (Nat.le_of_ble_eq_true rfl) ?_
    clear h0
    refine J_putI hX dX0_disksLine_40 pl_RX0_64 (ltn (lt_isTo_0 hb) hn) (lo_isTo_0 hb) rfl rfl rfl h (fun m4 h => ?_)
    refine J_aload_n hX dX0_disksLine_43 rfl 0 rfl ?_
    refine J_getR hX dX0_disksLine_44 fl_RX0_9 (ltn ltc_17 hn) lo_17 rfl (rt_17_0 _ _ _ _ _) ?_
    refine J_bipush hX (59 : Int32) dX0_disksLine_47 (by decide) ?_
    obtain ⟨m5, h0, h⟩ := bd1_some h
    refine J_callVv (As := [.int (59 : Int32)]) (st := []) hX dX0_disksLine_49 cw_RX0_73 (by omega) (c_X7_pass hn  h0) (ltn ltc_1 hn) lo_1 (by decide) rfl rfl rfl (Nat.le_of_ble_eq_true rfl) ?_
    clear h0
    exact J_return hX dX0_disksLine_52 h hF
  · refine J_aload_n hX dX0_disksLine_10 rfl 0 rfl ?_
    refine J_getR hX dX0_disksLine_11 fl_RX0_9 (ltn ltc_17 hn) lo_17 rfl (rt_17_0 _ _ _ _ _) ?_
    refine J_iconst hX (3 : Int32) dX0_disksLine_14 ic_3 ?_
    obtain ⟨m6, h0, h⟩ := bd1_some h
    refine J_callVv (As := [.int (3 : Int32)]) (st := []) hX dX0_disksLine_15 cw_RX0_60 (by omega) (c_X7_fail hn  h0) (ltn ltc_1 hn) lo_1 (by decide) rfl rfl rfl (Nat.le_of_ble_eq_true rfl) ?_
    clear h0
    exact J_return hX dX0_disksLine_18 h hF
theorem c_X0_disksLine {G : GG} {l : Launch} {ρ : Nat → Nat} {n t u w v : Nat} (hn : 126 ≤ n) {b : Nat} (hb : isTo b) {m : Mm} {mE : Mm} (h : f_X0_disksLine b m = some mE) : CT G l yX0_disksLine cX0_disksLine 1 none 6 0 0 ρ n (RT t u w v (some b)) [.ref 17] m none (RT t u w v (some b)) mE := ct_of_J (by decide) rfl (Nat.le_of_ble_eq_true rfl) (fun X hX e1 e2 e3 e4 hQ hr hl => t_X0_disksLine hX (Nat.le_refl _) hn hb ⟨by rw [hQ, e3, e4], hr, hl⟩ h)
theorem t_X0_blockLine_L88 {X : XX} {G : GG} {ρ : Nat → Nat} {n t u w v : Nat} {d : Nat} {b : Nat} (hX : Ok X G ρ cX0_blockLine 3 RX0 d) (hd0 : 6 ≤ d) (hn : 126 ≤ n) (hb : isTo b) {mE : Mm} (hF : Fin' X G ρ n none none (RT t u w v (some b)) mE) : ∀ (k : Nat) (v2 : Int32) (m : Mm), f_X0_blockLine_L88 b k v2 m = some mE → J X G ρ n 3 88 [(0, .ref 17), (2, .int v2)] [] (RT t u w v (some b)) m := by
  intro k
  induction k with
  | zero => intro _ _ h; rw [f_X0_blockLine_L88] at h; cases h
  | succ k ih =>
    intro v2 m h
    rw [f_X0_blockLine_L88] at h
    refine J_iload_n hX dX0_blockLine_88 rfl 1 rfl ?_
    refine J_iconst hX (5 : Int32) dX0_blockLine_89 ic_5 ?_
    refine J_icmp_gt hX 124 dX0_blockLine_90 (by decide) h (fun c h => ?_) (fun c h => ?_)
    · refine J_aload_n hX dX0_blockLine_124 rfl 0 rfl ?_
      obtain ⟨m7, h0, h⟩ := bd1_some h
      refine J_callVv (As := []) (st := []) hX dX0_blockLine_125 cw_RX0_109 (by omega) (c_X0_closeBlock hn hb h0) (ltn ltc_17 hn) lo_17 (by decide) rfl rfl rfl (Nat.le_of_ble_eq_true rfl) ?_
      clear h0
      exact J_return hX dX0_blockLine_128 h hF
    · refine J_aload_n hX dX0_blockLine_93 rfl 0 rfl ?_
      refine J_getR hX dX0_blockLine_94 fl_RX0_9 (ltn ltc_17 hn) lo_17 rfl (rt_17_0 _ _ _ _ _) ?_
      refine J_getI hX dX0_blockLine_97 fl_RX0_29 (ltn ltc_1 hn) lo_1 rfl ?_
      refine J_if_ne hX 124 dX0_blockLine_100 (by decide) h (fun c h => ?_) (fun c h => ?_)
      · refine J_aload_n hX dX0_blockLine_103 rfl 0 rfl ?_
        refine J_getR hX dX0_blockLine_104 fl_RX0_9 (ltn ltc_17 hn) lo_17 rfl (rt_17_0 _ _ _ _ _) ?_
        refine J_getI hX dX0_blockLine_107 fl_RX0_33 (ltn ltc_1 hn) lo_1 rfl ?_
        refine J_iconst hX (3 : Int32) dX0_blockLine_110 ic_3 ?_
        refine J_icmp_ne hX 124 dX0_blockLine_111 (by decide) h (fun c h => ?_) (fun c h => ?_)
        · refine J_aload_n hX dX0_blockLine_114 rfl 0 rfl ?_
          obtain ⟨m10, h0, h⟩ := bd1_some h
          refine J_callVv (As := []) (st := []) hX dX0_blockLine_115 cw_RX0_106 (by omega) (c_X0_blockDisk hn hb h0) (ltn ltc_17 hn) lo_17 (by decide) rfl rfl rfl (Nat.le_of_ble_eq_true rfl) ?_
          clear h0
          refine J_iinc hX (v2 + (1 : Int32)) [(2, .int (v2 + (1 : Int32))), (0, .ref 17)] dX0_blockLine_118 1 rfl (congrArg (fun z => v2 + z) ic_1) (by decide) rfl ?_
          refine J_goto hX 88 dX0_blockLine_121 (by decide) ?_
          refine J_sub [(0, .ref 17), (2, .int (v2 + (1 : Int32)))] [1, 0] rfl ?_
          exact ih (v2 + (1 : Int32)) m10 h
        · refine J_aload_n hX dX0_blockLine_124 rfl 0 rfl ?_
          obtain ⟨m9, h0, h⟩ := bd1_some h
          refine J_callVv (As := []) (st := []) hX dX0_blockLine_125 cw_RX0_109 (by omega) (c_X0_closeBlock hn hb h0) (ltn ltc_17 hn) lo_17 (by decide) rfl rfl rfl (Nat.le_of_ble_eq_true rfl) ?_
          clear h0
          exact J_return hX dX0_blockLine_128 h hF
      · refine J_aload_n hX dX0_blockLine_124 rfl 0 rfl ?_
        obtain ⟨m8, h0, h⟩ := bd1_some h
        refine J_callVv (As := []) (st := []) hX dX0_blockLine_125 cw_RX0_109 (by omega) (c_X0_closeBlock hn hb h0) (ltn ltc_17 hn) lo_17 (by decide) rfl rfl rfl (Nat.le_of_ble_eq_true rfl) ?_
        clear h0
        exact J_return hX dX0_blockLine_128 h hF
theorem t_X0_blockLine {X : XX} {G : GG} {ρ : Nat → Nat} {n t u w v : Nat} {d : Nat} {b : Nat} (hX : Ok X G ρ cX0_blockLine 3 RX0 d) (hd0 : 6 ≤ d) (hn : 126 ≤ n) (hb : isTo b) {mE : Mm} (hF : Fin' X G ρ n none none (RT t u w v (some b)) mE) {m : Mm} (h : f_X0_blockLine b m = some mE) : J X G ρ n 3 0 [(0, .ref 17)] [] (RT t u w v (some b)) m := by
  unfold f_X0_blockLine at h
  refine J_aload_n hX dX0_blockLine_0 rfl 0 rfl ?_
  refine J_getR hX dX0_blockLine_1 fl_RX0_15 (ltn ltc_17 hn) lo_17 rfl (rt_17_1 _ _ _ _ _) ?_
  refine J_getI hX dX0_blockLine_4 fl_RX0_92 (ltn (lt_isTo_0 hb) hn) (lo_isTo_0 hb) rfl ?_
  refine J_bipush hX (6 : Int32) dX0_blockLine_7 (by decide) ?_
  refine J_icmp_lt hX 21 dX0_blockLine_9 (by decide) h (fun c h => ?_) (fun c h => ?_)
  · refine J_aload_n hX dX0_blockLine_21 rfl 0 rfl ?_
    refine J_getR hX dX0_blockLine_22 fl_RX0_9 (ltn ltc_17 hn) lo_17 rfl (rt_17_0 _ _ _ _ _) ?_
    obtain ⟨m1, h0, h⟩ := bd1_some h
    refine J_callVv (As := []) (st := []) hX dX0_blockLine_25 cw_RX0_66 (by omega) (c_X7_advance hn  h0) (ltn ltc_1 hn) lo_1 (by decide) rfl rfl rfl (Nat.le_of_ble_eq_true rfl) ?_
    clear h0
    refine J_aload_n hX dX0_blockLine_28 rfl 0 rfl ?_
    obtain ⟨r3, m2, h0, h⟩ := bd2_some h
    refine J_callVi (As := []) (st := []) hX dX0_blockLine_29 cw_RX0_95 (by omega) (c_X0_kindInHand hn hb h0) (ltn ltc_17 hn) lo_17 (by decide) rfl rfl rfl (Nat.le_of_ble_eq_true rfl) ?_
    clear h0
    refine J_istore_n hX [(1, .int r3), (0, .ref 17)] dX0_blockLine_32 rfl (by decide) rfl ?_
    refine J_iload_n hX dX0_blockLine_33 rfl 0 rfl ?_
    refine J_iconst hX (-1 : Int32) dX0_blockLine_34 ic_m1 ?_
    refine J_icmp_ne hX 47 dX0_blockLine_35 (by decide) h (fun c h => ?_) (fun c h => ?_)
    · refine J_aload_n hX dX0_blockLine_38 rfl 1 rfl ?_
      refine J_getR hX dX0_blockLine_39 fl_RX0_9 (ltn ltc_17 hn) lo_17 rfl (rt_17_0 _ _ _ _ _) ?_
      refine J_iconst hX (1 : Int32) dX0_blockLine_42 ic_1 ?_
      obtain ⟨m11, h0, h⟩ := bd1_some h
      refine J_callVv (As := [.int (1 : Int32)]) (st := []) hX dX0_blockLine_43 cw_RX0_60 (by omega) (c_X7_fail hn  h0) (ltn ltc_1 hn) lo_1 (by decide) rfl rfl rfl (Nat.le_of_ble_eq_true rfl) ?_
      clear h0
      exact J_return hX dX0_blockLine_46 h hF
    · refine J_aload_n hX dX0_blockLine_47 rfl 1 rfl ?_
      refine J_getR hX dX0_blockLine_48 fl_RX0_9 (ltn ltc_17 hn) lo_17 rfl (rt_17_0 _ _ _ _ _) ?_
      obtain ⟨m4, h0, h⟩ := bd1_some h
      refine J_callVv (As := []) (st := []) hX dX0_blockLine_51 cw_RX0_66 (by omega) (c_X7_advance hn  h0) (ltn ltc_1 hn) lo_1 (by decide) rfl rfl rfl (Nat.le_of_ble_eq_true rfl) ?_
      clear h0
      refine J_aload_n hX dX0_blockLine_54 rfl 1 rfl ?_
      refine J_getR hX dX0_blockLine_55 fl_RX0_15 (ltn ltc_17 hn) lo_17 rfl (rt_17_1 _ _ _ _ _) ?_
      refine J_getR hX dX0_blockLine_58 fl_RX0_99 (ltn (lt_isTo_0 hb) hn) (lo_isTo_0 hb) rfl (rt_isTo_0_3 _ _ _ _ _ hb) ?_
      refine J_aload_n hX dX0_blockLine_61 rfl 1 rfl ?_
      refine J_getR hX dX0_blockLine_62 fl_RX0_15 (ltn ltc_17 hn) lo_17 rfl (rt_17_1 _ _ _ _ _) ?_
      refine J_getI hX dX0_blockLine_65 fl_RX0_92 (ltn (lt_isTo_0 hb) hn) (lo_isTo_0 hb) rfl ?_
      refine J_iload_n hX dX0_blockLine_68 rfl 0 rfl ?_
      refine J_iastore hX dX0_blockLine_69 (ltn (lt_isTo_1 hb) hn) (lay_isTo_1 hb) h (fun m5 h => ?_)
      refine J_aload_n hX dX0_blockLine_70 rfl 1 rfl ?_
      refine J_getR hX dX0_blockLine_71 fl_RX0_15 (ltn ltc_17 hn) lo_17 rfl (rt_17_1 _ _ _ _ _) ?_
      refine J_getR hX dX0_blockLine_74 fl_RX0_103 (ltn (lt_isTo_0 hb) hn) (lo_isTo_0 hb) rfl (rt_isTo_0_4 _ _ _ _ _ hb) ?_
      refine J_aload_n hX dX0_blockLine_77 rfl 1 rfl ?_
      refine J_getR hX dX0_blockLine_78 fl_RX0_15 (ltn ltc_17 hn) lo_17 rfl (rt_17_1 _ _ _ _ _) ?_
      refine J_getI hX dX0_blockLine_81 fl_RX0_92 (ltn (lt_isTo_0 hb) hn) (lo_isTo_0 hb) rfl ?_
      refine J_iconst hX (0 : Int32) dX0_blockLine_84 ic_0 ?_
      refine J_iastore hX dX0_blockLine_85 (ltn (lt_isTo_2 hb) hn) (lay_isTo_2 hb) h (fun m6 h => ?_)
      refine J_iconst hX (0 : Int32) dX0_blockLine_86 ic_0 ?_
      refine J_istore_n hX [(2, .int (0 : Int32)), (1, .int r3), (0, .ref 17)] dX0_blockLine_87 rfl (by decide) rfl ?_
      refine J_sub [(0, .ref 17), (2, .int (0 : Int32))] [2, 0] rfl ?_
      exact t_X0_blockLine_L88 hX hd0 hn hb hF FU (0 : Int32)  m6 h
  · refine J_aload_n hX dX0_blockLine_12 rfl 0 rfl ?_
    refine J_getR hX dX0_blockLine_13 fl_RX0_9 (ltn ltc_17 hn) lo_17 rfl (rt_17_0 _ _ _ _ _) ?_
    refine J_iconst hX (5 : Int32) dX0_blockLine_16 ic_5 ?_
    obtain ⟨m12, h0, h⟩ := bd1_some h
    refine J_callVv (As := [.int (5 : Int32)]) (st := []) hX dX0_blockLine_17 cw_RX0_60 (by omega) (c_X7_fail hn  h0) (ltn ltc_1 hn) lo_1 (by decide) rfl rfl rfl (Nat.le_of_ble_eq_true rfl) ?_
    clear h0
    exact J_return hX dX0_blockLine_20 h hF
theorem c_X0_blockLine {G : GG} {l : Launch} {ρ : Nat → Nat} {n t u w v : Nat} (hn : 126 ≤ n) {b : Nat} (hb : isTo b) {m : Mm} {mE : Mm} (h : f_X0_blockLine b m = some mE) : CT G l yX0_blockLine cX0_blockLine 3 none 6 0 0 ρ n (RT t u w v (some b)) [.ref 17] m none (RT t u w v (some b)) mE := ct_of_J (by decide) rfl (Nat.le_of_ble_eq_true rfl) (fun X hX e1 e2 e3 e4 hQ hr hl => t_X0_blockLine hX (Nat.le_refl _) hn hb ⟨by rw [hQ, e3, e4], hr, hl⟩ h)
theorem t_X0_parityLine {X : XX} {G : GG} {ρ : Nat → Nat} {n t u w v : Nat} {d : Nat} {b : Nat} (hX : Ok X G ρ cX0_parityLine 1 RX0 d) (hd0 : 71 ≤ d) (hn : 126 ≤ n) (hb : isTo b) {mE : Mm} (hF : Fin' X G ρ n none none (RT t u w v (some b)) mE) {m : Mm} (h : f_X0_parityLine b m = some mE) : J X G ρ n 1 0 [(0, .ref 17)] [] (RT t u w v (some b)) m := by
  unfold f_X0_parityLine at h
  refine J_aload_n hX dX0_parityLine_0 rfl 0 rfl ?_
  refine J_getR hX dX0_parityLine_1 fl_RX0_15 (ltn ltc_17 hn) lo_17 rfl (rt_17_1 _ _ _ _ _) ?_
  refine J_getR hX dX0_parityLine_4 fl_RX0_79 (ltn (lt_isTo_0 hb) hn) (lo_isTo_0 hb) rfl (rt_isTo_0_6 _ _ _ _ _ hb) ?_
  refine J_getI hX dX0_parityLine_7 fl_RX0_83 (ltn (lt_isTo_4 hb) hn) (lo_isTo_4 hb) rfl ?_
  refine J_if_eq hX 22 dX0_parityLine_10 (by decide) h (fun c h => ?_) (fun c h => ?_)
  · refine J_aload_n hX dX0_parityLine_22 rfl 0 rfl ?_
    refine J_getR hX dX0_parityLine_23 fl_RX0_9 (ltn ltc_17 hn) lo_17 rfl (rt_17_0 _ _ _ _ _) ?_
    obtain ⟨m1, h0, h⟩ := bd1_some h
    refine J_callVv (As := []) (st := []) hX dX0_parityLine_26 cw_RX0_66 (by omega) (c_X7_advance hn  h0) (ltn ltc_1 hn) lo_1 (by decide) rfl rfl rfl (Nat.le_of_ble_eq_true rfl) ?_
    clear h0
    refine J_aload_n hX dX0_parityLine_29 rfl 0 rfl ?_
    refine J_iconst hX (0 : Int32) dX0_parityLine_30 ic_0 ?_
    refine J_iconst hX (0 : Int32) dX0_parityLine_31 ic_0 ?_
    obtain ⟨m2, h0, h⟩ := bd1_some h
    refine J_callVv (As := [.int (0 : Int32), .int (0 : Int32)]) (st := []) hX dX0_parityLine_32 cw_RX0_88 (by omega) (c_X0_chain_r hn hb h0) (ltn ltc_17 hn) lo_17 (by decide) rfl rfl rfl (Nat.le_of_ble_eq_true rfl) ?_
    clear h0
    refine J_aload_n hX dX0_parityLine_35 rfl 0 rfl ?_
    refine J_getR hX dX0_parityLine_36 fl_RX0_9 (ltn ltc_17 hn) lo_17 rfl (rt_17_0 _ _ _ _ _) ?_
    refine J_bipush hX (59 : Int32) dX0_parityLine_39 (by decide) ?_
    obtain ⟨m3, h0, h⟩ := bd1_some h
    refine J_callVv (As := [.int (59 : Int32)]) (st := []) hX dX0_parityLine_41 cw_RX0_73 (by omega) (c_X7_pass hn  h0) (ltn ltc_1 hn) lo_1 (by decide) rfl rfl rfl (Nat.le_of_ble_eq_true rfl) ?_
    clear h0
    exact J_return hX dX0_parityLine_44 h hF
  · refine J_aload_n hX dX0_parityLine_13 rfl 0 rfl ?_
    refine J_getR hX dX0_parityLine_14 fl_RX0_9 (ltn ltc_17 hn) lo_17 rfl (rt_17_0 _ _ _ _ _) ?_
    refine J_iconst hX (3 : Int32) dX0_parityLine_17 ic_3 ?_
    obtain ⟨m4, h0, h⟩ := bd1_some h
    refine J_callVv (As := [.int (3 : Int32)]) (st := []) hX dX0_parityLine_18 cw_RX0_60 (by omega) (c_X7_fail hn  h0) (ltn ltc_1 hn) lo_1 (by decide) rfl rfl rfl (Nat.le_of_ble_eq_true rfl) ?_
    clear h0
    exact J_return hX dX0_parityLine_21 h hF
theorem c_X0_parityLine {G : GG} {l : Launch} {ρ : Nat → Nat} {n t u w v : Nat} (hn : 126 ≤ n) {b : Nat} (hb : isTo b) {m : Mm} {mE : Mm} (h : f_X0_parityLine b m = some mE) : CT G l yX0_parityLine cX0_parityLine 1 none 71 0 0 ρ n (RT t u w v (some b)) [.ref 17] m none (RT t u w v (some b)) mE := ct_of_J (by decide) rfl (Nat.le_of_ble_eq_true rfl) (fun X hX e1 e2 e3 e4 hQ hr hl => t_X0_parityLine hX (Nat.le_refl _) hn hb ⟨by rw [hQ, e3, e4], hr, hl⟩ h)
theorem t_X0_speedLine {X : XX} {G : GG} {ρ : Nat → Nat} {n t u w v : Nat} {d : Nat} {b : Nat} (hX : Ok X G ρ cX0_speedLine 1 RX0 d) (hd0 : 6 ≤ d) (hn : 126 ≤ n) (hb : isTo b) {mE : Mm} (hF : Fin' X G ρ n none none (RT t u w v (some b)) mE) {m : Mm} (h : f_X0_speedLine b m = some mE) : J X G ρ n 1 0 [(0, .ref 17)] [] (RT t u w v (some b)) m := by
  unfold f_X0_speedLine at h
  refine J_aload_n hX dX0_speedLine_0 rfl 0 rfl ?_
  refine J_getR hX dX0_speedLine_1 fl_RX0_15 (ltn ltc_17 hn) lo_17 rfl (rt_17_1 _ _ _ _ _) ?_
  refine J_getI hX dX0_speedLine_4 fl_RX0_77 (ltn (lt_isTo_0 hb) hn) (lo_isTo_0 hb) rfl ?_
  refine J_if_eq hX 19 dX0_speedLine_7 (by decide) h (fun c h => ?_) (fun c h => ?_)
  · refine J_aload_n hX dX0_speedLine_19 rfl 0 rfl ?_
    refine J_getR hX dX0_speedLine_20 fl_RX0_9 (ltn ltc_17 hn) lo_17 rfl (rt_17_0 _ _ _ _ _) ?_
    obtain ⟨m1, h0, h⟩ := bd1_some h
    refine J_callVv (As := []) (st := []) hX dX0_speedLine_23 cw_RX0_66 (by omega) (c_X7_advance hn  h0) (ltn ltc_1 hn) lo_1 (by decide) rfl rfl rfl (Nat.le_of_ble_eq_true rfl) ?_
    clear h0
    refine J_aload_n hX dX0_speedLine_26 rfl 0 rfl ?_
    refine J_getR hX dX0_speedLine_27 fl_RX0_15 (ltn ltc_17 hn) lo_17 rfl (rt_17_1 _ _ _ _ _) ?_
    refine J_aload_n hX dX0_speedLine_30 rfl 0 rfl ?_
    refine J_getR hX dX0_speedLine_31 fl_RX0_9 (ltn ltc_17 hn) lo_17 rfl (rt_17_0 _ _ _ _ _) ?_
    refine J_iconst hX (1 : Int32) dX0_speedLine_34 ic_1 ?_
    refine J_bipush hX (9 : Int32) dX0_speedLine_35 (by decide) ?_
    obtain ⟨r3, m2, h0, h⟩ := bd2_some h
    refine J_callVi (As := [.int (1 : Int32), .int (9 : Int32)]) (st := [.ref b]) hX dX0_speedLine_37 cw_RX0_69 (by omega) (c_X7_numberWithin hn  h0) (ltn ltc_1 hn) lo_1 (by decide) rfl rfl rfl (Nat.le_of_ble_eq_true rfl) ?_
    clear h0
    refine J_putI hX dX0_speedLine_40 pl_RX0_77 (ltn (lt_isTo_0 hb) hn) (lo_isTo_0 hb) rfl rfl rfl h (fun m4 h => ?_)
    refine J_aload_n hX dX0_speedLine_43 rfl 0 rfl ?_
    refine J_getR hX dX0_speedLine_44 fl_RX0_9 (ltn ltc_17 hn) lo_17 rfl (rt_17_0 _ _ _ _ _) ?_
    refine J_bipush hX (59 : Int32) dX0_speedLine_47 (by decide) ?_
    obtain ⟨m5, h0, h⟩ := bd1_some h
    refine J_callVv (As := [.int (59 : Int32)]) (st := []) hX dX0_speedLine_49 cw_RX0_73 (by omega) (c_X7_pass hn  h0) (ltn ltc_1 hn) lo_1 (by decide) rfl rfl rfl (Nat.le_of_ble_eq_true rfl) ?_
    clear h0
    exact J_return hX dX0_speedLine_52 h hF
  · refine J_aload_n hX dX0_speedLine_10 rfl 0 rfl ?_
    refine J_getR hX dX0_speedLine_11 fl_RX0_9 (ltn ltc_17 hn) lo_17 rfl (rt_17_0 _ _ _ _ _) ?_
    refine J_iconst hX (3 : Int32) dX0_speedLine_14 ic_3 ?_
    obtain ⟨m6, h0, h⟩ := bd1_some h
    refine J_callVv (As := [.int (3 : Int32)]) (st := []) hX dX0_speedLine_15 cw_RX0_60 (by omega) (c_X7_fail hn  h0) (ltn ltc_1 hn) lo_1 (by decide) rfl rfl rfl (Nat.le_of_ble_eq_true rfl) ?_
    clear h0
    exact J_return hX dX0_speedLine_18 h hF
theorem c_X0_speedLine {G : GG} {l : Launch} {ρ : Nat → Nat} {n t u w v : Nat} (hn : 126 ≤ n) {b : Nat} (hb : isTo b) {m : Mm} {mE : Mm} (h : f_X0_speedLine b m = some mE) : CT G l yX0_speedLine cX0_speedLine 1 none 6 0 0 ρ n (RT t u w v (some b)) [.ref 17] m none (RT t u w v (some b)) mE := ct_of_J (by decide) rfl (Nat.le_of_ble_eq_true rfl) (fun X hX e1 e2 e3 e4 hQ hr hl => t_X0_speedLine hX (Nat.le_refl _) hn hb ⟨by rw [hQ, e3, e4], hr, hl⟩ h)
theorem t_J6_bitCount_0f7a4 {X : XX} {G : GG} {ρ : Nat → Nat} {n t u w v : Nat} {x : Option Nat} {d : Nat} (hX : Ok X G ρ cJ6_bitCount_0f7a4 1 RJ6 d) (hd0 : 0 ≤ d) (hn : 126 ≤ n) {rE : Int32} {mE : Mm} (hF : Fin' X G ρ n (some .int) (some (.int rE)) (RT t u w v x) mE) {x0 : Int32} {m : Mm} (h : f_J6_bitCount_0f7a4 x0 m = some (rE, mE)) : J X G ρ n 1 0 [(0, .int x0)] [] (RT t u w v x) m := by
  unfold f_J6_bitCount_0f7a4 at h
  refine J_iload_n hX dJ6_bitCount_0f7a4_0 rfl 0 rfl ?_
  refine J_iload_n hX dJ6_bitCount_0f7a4_1 rfl 0 rfl ?_
  refine J_iconst hX (1 : Int32) dJ6_bitCount_0f7a4_2 ic_1 ?_
  refine J_iushr hX dJ6_bitCount_0f7a4_3 ?_
  refine J_ldc_w hX (1431655765 : Int32) dJ6_bitCount_0f7a4_4 k_RJ6_265 ?_
  refine J_iand hX dJ6_bitCount_0f7a4_7 ?_
  refine J_isub hX dJ6_bitCount_0f7a4_8 ?_
  refine J_istore_n hX [(0, .int (x0 - (((x0.toUInt32 >>> ((1 : Int32).toUInt32 &&& Int32.toUInt32 31)).toInt32) &&& (1431655765 : Int32))))] dJ6_bitCount_0f7a4_9 rfl (by decide) rfl ?_
  refine J_iload_n hX dJ6_bitCount_0f7a4_10 rfl 0 rfl ?_
  refine J_ldc_w hX (858993459 : Int32) dJ6_bitCount_0f7a4_11 k_RJ6_266 ?_
  refine J_iand hX dJ6_bitCount_0f7a4_14 ?_
  refine J_iload_n hX dJ6_bitCount_0f7a4_15 rfl 0 rfl ?_
  refine J_iconst hX (2 : Int32) dJ6_bitCount_0f7a4_16 ic_2 ?_
  refine J_iushr hX dJ6_bitCount_0f7a4_17 ?_
  refine J_ldc_w hX (858993459 : Int32) dJ6_bitCount_0f7a4_18 k_RJ6_266 ?_
  refine J_iand hX dJ6_bitCount_0f7a4_21 ?_
  refine J_iadd hX dJ6_bitCount_0f7a4_22 ?_
  refine J_istore_n hX [(0, .int (((x0 - (((x0.toUInt32 >>> ((1 : Int32).toUInt32 &&& Int32.toUInt32 31)).toInt32) &&& (1431655765 : Int32))) &&& (858993459 : Int32)) + ((((x0 - (((x0.toUInt32 >>> ((1 : Int32).toUInt32 &&& Int32.toUInt32 31)).toInt32) &&& (1431655765 : Int32))).toUInt32 >>> ((2 : Int32).toUInt32 &&& Int32.toUInt32 31)).toInt32) &&& (858993459 : Int32))))] dJ6_bitCount_0f7a4_23 rfl (by decide) rfl ?_
  refine J_iload_n hX dJ6_bitCount_0f7a4_24 rfl 0 rfl ?_
  refine J_iload_n hX dJ6_bitCount_0f7a4_25 rfl 0 rfl ?_
  refine J_iconst hX (4 : Int32) dJ6_bitCount_0f7a4_26 ic_4 ?_
  refine J_iushr hX dJ6_bitCount_0f7a4_27 ?_
  refine J_iadd hX dJ6_bitCount_0f7a4_28 ?_
  refine J_ldc_w hX (252645135 : Int32) dJ6_bitCount_0f7a4_29 k_RJ6_267 ?_
  refine J_iand hX dJ6_bitCount_0f7a4_32 ?_
  refine J_istore_n hX [(0, .int (((((x0 - (((x0.toUInt32 >>> ((1 : Int32).toUInt32 &&& Int32.toUInt32 31)).toInt32) &&& (1431655765 : Int32))) &&& (858993459 : Int32)) + ((((x0 - (((x0.toUInt32 >>> ((1 : Int32).toUInt32 &&& Int32.toUInt32 31)).toInt32) &&& (1431655765 : Int32))).toUInt32 >>> ((2 : Int32).toUInt32 &&& Int32.toUInt32 31)).toInt32) &&& (858993459 : Int32))) + (((((x0 - (((x0.toUInt32 >>> ((1 : Int32).toUInt32 &&& Int32.toUInt32 31)).toInt32) &&& (1431655765 : Int32))) &&& (858993459 : Int32)) + ((((x0 - (((x0.toUInt32 >>> ((1 : Int32).toUInt32 &&& Int32.toUInt32 31)).toInt32) &&& (1431655765 : Int32))).toUInt32 >>> ((2 : Int32).toUInt32 &&& Int32.toUInt32 31)).toInt32) &&& (858993459 : Int32))).toUInt32 >>> ((4 : Int32).toUInt32 &&& Int32.toUInt32 31)).toInt32)) &&& (252645135 : Int32)))] dJ6_bitCount_0f7a4_33 rfl (by decide) rfl ?_
  refine J_iload_n hX dJ6_bitCount_0f7a4_34 rfl 0 rfl ?_
  refine J_iload_n hX dJ6_bitCount_0f7a4_35 rfl 0 rfl ?_
  refine J_bipush hX (8 : Int32) dJ6_bitCount_0f7a4_36 (by decide) ?_
  refine J_iushr hX dJ6_bitCount_0f7a4_38 ?_
  refine J_iadd hX dJ6_bitCount_0f7a4_39 ?_
  refine J_istore_n hX [(0, .int ((((((x0 - (((x0.toUInt32 >>> ((1 : Int32).toUInt32 &&& Int32.toUInt32 31)).toInt32) &&& (1431655765 : Int32))) &&& (858993459 : Int32)) + ((((x0 - (((x0.toUInt32 >>> ((1 : Int32).toUInt32 &&& Int32.toUInt32 31)).toInt32) &&& (1431655765 : Int32))).toUInt32 >>> ((2 : Int32).toUInt32 &&& Int32.toUInt32 31)).toInt32) &&& (858993459 : Int32))) + (((((x0 - (((x0.toUInt32 >>> ((1 : Int32).toUInt32 &&& Int32.toUInt32 31)).toInt32) &&& (1431655765 : Int32))) &&& (858993459 : Int32)) + ((((x0 - (((x0.toUInt32 >>> ((1 : Int32).toUInt32 &&& Int32.toUInt32 31)).toInt32) &&& (1431655765 : Int32))).toUInt32 >>> ((2 : Int32).toUInt32 &&& Int32.toUInt32 31)).toInt32) &&& (858993459 : Int32))).toUInt32 >>> ((4 : Int32).toUInt32 &&& Int32.toUInt32 31)).toInt32)) &&& (252645135 : Int32)) + (((((((x0 - (((x0.toUInt32 >>> ((1 : Int32).toUInt32 &&& Int32.toUInt32 31)).toInt32) &&& (1431655765 : Int32))) &&& (858993459 : Int32)) + ((((x0 - (((x0.toUInt32 >>> ((1 : Int32).toUInt32 &&& Int32.toUInt32 31)).toInt32) &&& (1431655765 : Int32))).toUInt32 >>> ((2 : Int32).toUInt32 &&& Int32.toUInt32 31)).toInt32) &&& (858993459 : Int32))) + (((((x0 - (((x0.toUInt32 >>> ((1 : Int32).toUInt32 &&& Int32.toUInt32 31)).toInt32) &&& (1431655765 : Int32))) &&& (858993459 : Int32)) + ((((x0 - (((x0.toUInt32 >>> ((1 : Int32).toUInt32 &&& Int32.toUInt32 31)).toInt32) &&& (1431655765 : Int32))).toUInt32 >>> ((2 : Int32).toUInt32 &&& Int32.toUInt32 31)).toInt32) &&& (858993459 : Int32))).toUInt32 >>> ((4 : Int32).toUInt32 &&& Int32.toUInt32 31)).toInt32)) &&& (252645135 : Int32)).toUInt32 >>> ((8 : Int32).toUInt32 &&& Int32.toUInt32 31)).toInt32)))] dJ6_bitCount_0f7a4_40 rfl (by decide) rfl ?_
  refine J_iload_n hX dJ6_bitCount_0f7a4_41 rfl 0 rfl ?_
  refine J_iload_n hX dJ6_bitCount_0f7a4_42 rfl 0 rfl ?_
  refine J_bipush hX (16 : Int32) dJ6_bitCount_0f7a4_43 (by decide) ?_
  refine J_iushr hX dJ6_bitCount_0f7a4_45 ?_
  refine J_iadd hX dJ6_bitCount_0f7a4_46 ?_
  refine J_istore_n hX [(0, .int (((((((x0 - (((x0.toUInt32 >>> ((1 : Int32).toUInt32 &&& Int32.toUInt32 31)).toInt32) &&& (1431655765 : Int32))) &&& (858993459 : Int32)) + ((((x0 - (((x0.toUInt32 >>> ((1 : Int32).toUInt32 &&& Int32.toUInt32 31)).toInt32) &&& (1431655765 : Int32))).toUInt32 >>> ((2 : Int32).toUInt32 &&& Int32.toUInt32 31)).toInt32) &&& (858993459 : Int32))) + (((((x0 - (((x0.toUInt32 >>> ((1 : Int32).toUInt32 &&& Int32.toUInt32 31)).toInt32) &&& (1431655765 : Int32))) &&& (858993459 : Int32)) + ((((x0 - (((x0.toUInt32 >>> ((1 : Int32).toUInt32 &&& Int32.toUInt32 31)).toInt32) &&& (1431655765 : Int32))).toUInt32 >>> ((2 : Int32).toUInt32 &&& Int32.toUInt32 31)).toInt32) &&& (858993459 : Int32))).toUInt32 >>> ((4 : Int32).toUInt32 &&& Int32.toUInt32 31)).toInt32)) &&& (252645135 : Int32)) + (((((((x0 - (((x0.toUInt32 >>> ((1 : Int32).toUInt32 &&& Int32.toUInt32 31)).toInt32) &&& (1431655765 : Int32))) &&& (858993459 : Int32)) + ((((x0 - (((x0.toUInt32 >>> ((1 : Int32).toUInt32 &&& Int32.toUInt32 31)).toInt32) &&& (1431655765 : Int32))).toUInt32 >>> ((2 : Int32).toUInt32 &&& Int32.toUInt32 31)).toInt32) &&& (858993459 : Int32))) + (((((x0 - (((x0.toUInt32 >>> ((1 : Int32).toUInt32 &&& Int32.toUInt32 31)).toInt32) &&& (1431655765 : Int32))) &&& (858993459 : Int32)) + ((((x0 - (((x0.toUInt32 >>> ((1 : Int32).toUInt32 &&& Int32.toUInt32 31)).toInt32) &&& (1431655765 : Int32))).toUInt32 >>> ((2 : Int32).toUInt32 &&& Int32.toUInt32 31)).toInt32) &&& (858993459 : Int32))).toUInt32 >>> ((4 : Int32).toUInt32 &&& Int32.toUInt32 31)).toInt32)) &&& (252645135 : Int32)).toUInt32 >>> ((8 : Int32).toUInt32 &&& Int32.toUInt32 31)).toInt32)) + ((((((((x0 - (((x0.toUInt32 >>> ((1 : Int32).toUInt32 &&& Int32.toUInt32 31)).toInt32) &&& (1431655765 : Int32))) &&& (858993459 : Int32)) + ((((x0 - (((x0.toUInt32 >>> ((1 : Int32).toUInt32 &&& Int32.toUInt32 31)).toInt32) &&& (1431655765 : Int32))).toUInt32 >>> ((2 : Int32).toUInt32 &&& Int32.toUInt32 31)).toInt32) &&& (858993459 : Int32))) + (((((x0 - (((x0.toUInt32 >>> ((1 : Int32).toUInt32 &&& Int32.toUInt32 31)).toInt32) &&& (1431655765 : Int32))) &&& (858993459 : Int32)) + ((((x0 - (((x0.toUInt32 >>> ((1 : Int32).toUInt32 &&& Int32.toUInt32 31)).toInt32) &&& (1431655765 : Int32))).toUInt32 >>> ((2 : Int32).toUInt32 &&& Int32.toUInt32 31)).toInt32) &&& (858993459 : Int32))).toUInt32 >>> ((4 : Int32).toUInt32 &&& Int32.toUInt32 31)).toInt32)) &&& (252645135 : Int32)) + (((((((x0 - (((x0.toUInt32 >>> ((1 : Int32).toUInt32 &&& Int32.toUInt32 31)).toInt32) &&& (1431655765 : Int32))) &&& (858993459 : Int32)) + ((((x0 - (((x0.toUInt32 >>> ((1 : Int32).toUInt32 &&& Int32.toUInt32 31)).toInt32) &&& (1431655765 : Int32))).toUInt32 >>> ((2 : Int32).toUInt32 &&& Int32.toUInt32 31)).toInt32) &&& (858993459 : Int32))) + (((((x0 - (((x0.toUInt32 >>> ((1 : Int32).toUInt32 &&& Int32.toUInt32 31)).toInt32) &&& (1431655765 : Int32))) &&& (858993459 : Int32)) + ((((x0 - (((x0.toUInt32 >>> ((1 : Int32).toUInt32 &&& Int32.toUInt32 31)).toInt32) &&& (1431655765 : Int32))).toUInt32 >>> ((2 : Int32).toUInt32 &&& Int32.toUInt32 31)).toInt32) &&& (858993459 : Int32))).toUInt32 >>> ((4 : Int32).toUInt32 &&& Int32.toUInt32 31)).toInt32)) &&& (252645135 : Int32)).toUInt32 >>> ((8 : Int32).toUInt32 &&& Int32.toUInt32 31)).toInt32)).toUInt32 >>> ((16 : Int32).toUInt32 &&& Int32.toUInt32 31)).toInt32)))] dJ6_bitCount_0f7a4_47 rfl (by decide) rfl ?_
  refine J_iload_n hX dJ6_bitCount_0f7a4_48 rfl 0 rfl ?_
  refine J_bipush hX (63 : Int32) dJ6_bitCount_0f7a4_49 (by decide) ?_
  refine J_iand hX dJ6_bitCount_0f7a4_51 ?_
  exact J_ireturn hX dJ6_bitCount_0f7a4_52 h hF rfl
theorem c_J6_bitCount_0f7a4 {G : GG} {l : Launch} {ρ : Nat → Nat} {n t u w v : Nat} {x : Option Nat} (hn : 126 ≤ n) {x0 : Int32} {m : Mm} {rE : Int32} {mE : Mm} (h : f_J6_bitCount_0f7a4 x0 m = some (rE, mE)) : CT G l yJ6_bitCount_0f7a4 cJ6_bitCount_0f7a4 1 (some .int) 0 0 0 ρ n (RT t u w v x) [.int x0] m (some (.int rE)) (RT t u w v x) mE := ct_of_J (by decide +kernel) rfl (Nat.le_of_ble_eq_true rfl) (fun X hX e1 e2 e3 e4 hQ hr hl => t_J6_bitCount_0f7a4 hX (Nat.le_refl _) hn ⟨by rw [hQ, e3, e4], hr, hl⟩ h)
theorem t_X1_ofSet {X : XX} {G : GG} {ρ : Nat → Nat} {n t u w v : Nat} {x : Option Nat} {d : Nat} (hX : Ok X G ρ cX1_ofSet 4 RX1 d) (hd0 : 1 ≤ d) (hn : 126 ≤ n) {rE : Int32} {mE : Mm} (hF : Fin' X G ρ n (some .int) (some (.int rE)) (RT t u w v x) mE) {x0 : Int32} {x1 : Int32} {x2 : Int32} {m : Mm} (h : f_X1_ofSet x0 x1 x2 m = some (rE, mE)) : J X G ρ n 4 0 [(0, .int x0), (1, .int x1), (2, .int x2)] [] (RT t u w v x) m := by
  unfold f_X1_ofSet at h
  refine J_iload_n hX dX1_ofSet_0 rfl 0 rfl ?_
  refine J_iload_n hX dX1_ofSet_1 rfl 1 rfl ?_
  refine J_ishl hX dX1_ofSet_2 ?_
  refine J_iload_n hX dX1_ofSet_3 rfl 0 rfl ?_
  refine J_iload_n hX dX1_ofSet_4 rfl 2 rfl ?_
  refine J_iload_n hX dX1_ofSet_5 rfl 1 rfl ?_
  refine J_isub hX dX1_ofSet_6 ?_
  refine J_ishr hX dX1_ofSet_7 ?_
  refine J_ior hX dX1_ofSet_8 ?_
  refine J_iconst hX (1 : Int32) dX1_ofSet_9 ic_1 ?_
  refine J_iload_n hX dX1_ofSet_10 rfl 2 rfl ?_
  refine J_ishl hX dX1_ofSet_11 ?_
  refine J_iconst hX (1 : Int32) dX1_ofSet_12 ic_1 ?_
  refine J_isub hX dX1_ofSet_13 ?_
  refine J_iand hX dX1_ofSet_14 ?_
  refine J_istore_n hX [(3, .int (((x0 <<< (x1 &&& 31)) ||| (x0 >>> ((x2 - x1) &&& 31))) &&& (((1 : Int32) <<< (x2 &&& 31)) - (1 : Int32)))), (0, .int x0), (1, .int x1), (2, .int x2)] dX1_ofSet_15 rfl (by decide) rfl ?_
  refine J_iload_n hX dX1_ofSet_16 rfl 1 rfl ?_
  refine J_iload_n hX dX1_ofSet_17 rfl 0 rfl ?_
  refine J_iand hX dX1_ofSet_18 ?_
  obtain ⟨r2, m1, h0, h⟩ := bd2_some h
  refine J_callSi (As := [.int (x0 &&& (((x0 <<< (x1 &&& 31)) ||| (x0 >>> ((x2 - x1) &&& 31))) &&& (((1 : Int32) <<< (x2 &&& 31)) - (1 : Int32))))]) (st := []) hX dX1_ofSet_19 cw_RX1_9 (by omega) (c_J6_bitCount_0f7a4 hn  h0) rfl rfl (Nat.le_of_ble_eq_true rfl) ?_
  clear h0
  exact J_ireturn hX dX1_ofSet_22 h hF rfl
theorem c_X1_ofSet {G : GG} {l : Launch} {ρ : Nat → Nat} {n t u w v : Nat} {x : Option Nat} (hn : 126 ≤ n) {x0 : Int32} {x1 : Int32} {x2 : Int32} {m : Mm} {rE : Int32} {mE : Mm} (h : f_X1_ofSet x0 x1 x2 m = some (rE, mE)) : CT G l yX1_ofSet cX1_ofSet 4 (some .int) 1 0 0 ρ n (RT t u w v x) [.int x0, .int x1, .int x2] m (some (.int rE)) (RT t u w v x) mE := ct_of_J (by decide) rfl (Nat.le_of_ble_eq_true rfl) (fun X hX e1 e2 e3 e4 hQ hr hl => t_X1_ofSet hX (Nat.le_refl _) hn ⟨by rw [hQ, e3, e4], hr, hl⟩ h)
theorem t_X1_ofCycles_L4 {X : XX} {G : GG} {ρ : Nat → Nat} {n t u w v : Nat} {x : Option Nat} {d : Nat} {p0 : Nat} (hX : Ok X G ρ cX1_ofCycles 4 RX1 d) (hd0 : 2 ≤ d) (hn : 126 ≤ n) (hp0 : isTo p0) {rE : Int32} {mE : Mm} (hF : Fin' X G ρ n (some .int) (some (.int rE)) (RT t u w v x) mE) : ∀ (k : Nat) (v1 : Int32) (v2 : Int32) (v3 : Int32) (m : Mm), f_X1_ofCycles_L4 p0 k v1 v2 v3 m = some (rE, mE) → J X G ρ n 4 4 [(0, .ref p0), (1, .int v1), (2, .int v2), (3, .int v3)] [] (RT t u w v x) m := by
  intro k
  induction k with
  | zero => intro _ _ _ _ h; rw [f_X1_ofCycles_L4] at h; cases h
  | succ k ih =>
    intro v1 v2 v3 m h
    rw [f_X1_ofCycles_L4] at h
    refine J_iload_n hX dX1_ofCycles_4 rfl 3 rfl ?_
    refine J_aload_n hX dX1_ofCycles_5 rfl 0 rfl ?_
    refine J_getI hX dX1_ofCycles_6 fl_RX1_27 (ltn (lt_isTo_0 hp0) hn) (lo_isTo_0 hp0) rfl ?_
    refine J_icmp_ge hX 48 dX1_ofCycles_9 (by decide) h (fun c h => ?_) (fun c h => ?_)
    · refine J_aload_n hX dX1_ofCycles_12 rfl 0 rfl ?_
      refine J_getR hX dX1_ofCycles_13 fl_RX1_30 (ltn (lt_isTo_0 hp0) hn) (lo_isTo_0 hp0) rfl (rt_isTo_0_3 _ _ _ _ _ hp0) ?_
      refine J_iload_n hX dX1_ofCycles_16 rfl 3 rfl ?_
      refine J_iaload hX dX1_ofCycles_17 (ltn (lt_isTo_1 hp0) hn) (lay_isTo_1 hp0) h (fun h => ?_)
      refine J_iconst hX (1 : Int32) dX1_ofCycles_18 ic_1 ?_
      refine J_icmp_ne hX 42 dX1_ofCycles_19 (by decide) h (fun c h => ?_) (fun c h => ?_)
      · refine J_iload_n hX dX1_ofCycles_22 rfl 2 rfl ?_
        refine J_iconst hX (0 : Int32) dX1_ofCycles_23 ic_0 ?_
        refine J_imax hX dX1_ofCycles_24 (by omega) cm_RX1_34 (Nat.le_of_ble_eq_true rfl) ?_
        refine J_aload_n hX dX1_ofCycles_27 rfl 0 rfl ?_
        refine J_iload_n hX dX1_ofCycles_28 rfl 3 rfl ?_
        obtain ⟨r2, m1, h0, h⟩ := bd2_some h
        refine J_callVi (As := [.int v3]) (st := [.int (imax v2 (0 : Int32))]) hX dX1_ofCycles_29 cw_RX1_40 (by omega) (c_X8_bitsOf hn hp0 h0) (ltn (lt_isTo_0 hp0) hn) (lo_isTo_0 hp0) (by decide) rfl rfl rfl (Nat.le_of_ble_eq_true rfl) ?_
        clear h0
        refine J_iload_n hX dX1_ofCycles_32 rfl 1 rfl ?_
        refine J_aload_n hX dX1_ofCycles_33 rfl 0 rfl ?_
        refine J_getI hX dX1_ofCycles_34 fl_RX1_15 (ltn (lt_isTo_0 hp0) hn) (lo_isTo_0 hp0) rfl ?_
        obtain ⟨r4, m3, h0, h⟩ := bd2_some h
        refine J_callSi (As := [.int r2, .int v1, .int (gI m1 p0 0)]) (st := [.int (imax v2 (0 : Int32))]) hX dX1_ofCycles_37 cw_RX1_43 (by omega) (c_X1_ofSet hn  h0) rfl rfl (Nat.le_of_ble_eq_true rfl) ?_
        clear h0
        refine J_iadd hX dX1_ofCycles_40 ?_
        refine J_istore_n hX [(2, .int ((imax v2 (0 : Int32)) + r4)), (0, .ref p0), (1, .int v1), (3, .int v3)] dX1_ofCycles_41 rfl (by decide) rfl ?_
        refine J_iinc hX (v3 + (1 : Int32)) [(3, .int (v3 + (1 : Int32))), (2, .int ((imax v2 (0 : Int32)) + r4)), (0, .ref p0), (1, .int v1)] dX1_ofCycles_42 3 rfl (congrArg (fun z => v3 + z) ic_1) (by decide) rfl ?_
        refine J_goto hX 4 dX1_ofCycles_45 (by decide) ?_
        refine J_sub [(0, .ref p0), (1, .int v1), (2, .int ((imax v2 (0 : Int32)) + r4)), (3, .int (v3 + (1 : Int32)))] [2, 3, 1, 0] rfl ?_
        exact ih v1 ((imax v2 (0 : Int32)) + r4) (v3 + (1 : Int32)) m3 h
      · refine J_iinc hX (v3 + (1 : Int32)) [(3, .int (v3 + (1 : Int32))), (0, .ref p0), (1, .int v1), (2, .int v2)] dX1_ofCycles_42 3 rfl (congrArg (fun z => v3 + z) ic_1) (by decide) rfl ?_
        refine J_goto hX 4 dX1_ofCycles_45 (by decide) ?_
        refine J_sub [(0, .ref p0), (1, .int v1), (2, .int v2), (3, .int (v3 + (1 : Int32)))] [1, 2, 3, 0] rfl ?_
        exact ih v1 v2 (v3 + (1 : Int32)) m h
    · refine J_iload_n hX dX1_ofCycles_48 rfl 2 rfl ?_
      exact J_ireturn hX dX1_ofCycles_49 h hF rfl
theorem t_X1_ofCycles {X : XX} {G : GG} {ρ : Nat → Nat} {n t u w v : Nat} {x : Option Nat} {d : Nat} {p0 : Nat} (hX : Ok X G ρ cX1_ofCycles 4 RX1 d) (hd0 : 2 ≤ d) (hn : 126 ≤ n) (hp0 : isTo p0) {rE : Int32} {mE : Mm} (hF : Fin' X G ρ n (some .int) (some (.int rE)) (RT t u w v x) mE) {x1 : Int32} {m : Mm} (h : f_X1_ofCycles p0 x1 m = some (rE, mE)) : J X G ρ n 4 0 [(0, .ref p0), (1, .int x1)] [] (RT t u w v x) m := by
  unfold f_X1_ofCycles at h
  refine J_iconst hX (-1 : Int32) dX1_ofCycles_0 ic_m1 ?_
  refine J_istore_n hX [(2, .int (-1 : Int32)), (0, .ref p0), (1, .int x1)] dX1_ofCycles_1 rfl (by decide) rfl ?_
  refine J_iconst hX (0 : Int32) dX1_ofCycles_2 ic_0 ?_
  refine J_istore_n hX [(3, .int (0 : Int32)), (2, .int (-1 : Int32)), (0, .ref p0), (1, .int x1)] dX1_ofCycles_3 rfl (by decide) rfl ?_
  refine J_sub [(0, .ref p0), (1, .int x1), (2, .int (-1 : Int32)), (3, .int (0 : Int32))] [2, 3, 1, 0] rfl ?_
  exact t_X1_ofCycles_L4 hX hd0 hn hp0 hF FU x1 (-1 : Int32) (0 : Int32)  m h
theorem c_X1_ofCycles {G : GG} {l : Launch} {ρ : Nat → Nat} {n t u w v : Nat} {x : Option Nat} (hn : 126 ≤ n) {p0 : Nat} (hp0 : isTo p0) {x1 : Int32} {m : Mm} {rE : Int32} {mE : Mm} (h : f_X1_ofCycles p0 x1 m = some (rE, mE)) : CT G l yX1_ofCycles cX1_ofCycles 4 (some .int) 2 0 0 ρ n (RT t u w v x) [.ref p0, .int x1] m (some (.int rE)) (RT t u w v x) mE := ct_of_J (by decide) rfl (Nat.le_of_ble_eq_true rfl) (fun X hX e1 e2 e3 e4 hQ hr hl => t_X1_ofCycles hX (Nat.le_refl _) hn hp0 ⟨by rw [hQ, e3, e4], hr, hl⟩ h)
theorem t_X8_diskIn_J35 {X : XX} {G : GG} {ρ : Nat → Nat} {n t u w v : Nat} {x : Option Nat} {d : Nat} {a : Nat} (hX : Ok X G ρ cX8_diskIn 6 RX8 d) (hd0 : 0 ≤ d) (hn : 126 ≤ n) (ha : isTo a) {rE : Int32} {mE : Mm} (hF : Fin' X G ρ n (some .int) (some (.int rE)) (RT t u w v x) mE) (v1 : Int32) (v3 : Int32) (v4 : Int32) (v5 : Int32) (m : Mm) (h : f_X8_diskIn_J35 a v1 v3 v4 v5 m = some (rE, mE)) : J X G ρ n 6 35 [(0, .ref a), (1, .int v1), (3, .int v3), (4, .int v4), (5, .int v5)] [] (RT t u w v x) m := by
  unfold f_X8_diskIn_J35 at h
  refine J_aload_n hX dX8_diskIn_35 rfl 0 rfl ?_
  refine J_getR hX dX8_diskIn_36 fl_RX8_9 (ltn (lt_isTo_0 ha) hn) (lo_isTo_0 ha) rfl (rt_isTo_0_3 _ _ _ _ _ ha) ?_
  refine J_iload_n hX dX8_diskIn_39 rfl 1 rfl ?_
  refine J_iaload hX dX8_diskIn_40 (ltn (lt_isTo_1 ha) hn) (lay_isTo_1 ha) h (fun h => ?_)
  refine J_iconst hX (2 : Int32) dX8_diskIn_41 ic_2 ?_
  refine J_icmp_ne hX 60 dX8_diskIn_42 (by decide) h (fun c h => ?_) (fun c h => ?_)
  · refine J_iload_n hX dX8_diskIn_45 rfl 2 rfl ?_
    refine J_iconst hX (1 : Int32) dX8_diskIn_46 ic_1 ?_
    refine J_icmp_ne hX 60 dX8_diskIn_47 (by decide) h (fun c h => ?_) (fun c h => ?_)
    · refine J_iload hX dX8_diskIn_50 3 rfl ?_
      refine J_iconst hX (1 : Int32) dX8_diskIn_52 ic_1 ?_
      refine J_isub hX dX8_diskIn_53 ?_
      refine J_iload hX dX8_diskIn_54 4 rfl ?_
      refine J_isub hX dX8_diskIn_56 ?_
      refine J_goto hX 62 dX8_diskIn_57 (by decide) ?_
      exact J_ireturn hX dX8_diskIn_62 h hF rfl
    · refine J_iload hX dX8_diskIn_60 4 rfl ?_
      exact J_ireturn hX dX8_diskIn_62 h hF rfl
  · refine J_iload hX dX8_diskIn_60 4 rfl ?_
    exact J_ireturn hX dX8_diskIn_62 h hF rfl
theorem t_X8_diskIn {X : XX} {G : GG} {ρ : Nat → Nat} {n t u w v : Nat} {x : Option Nat} {d : Nat} {a : Nat} (hX : Ok X G ρ cX8_diskIn 6 RX8 d) (hd0 : 0 ≤ d) (hn : 126 ≤ n) (ha : isTo a) {rE : Int32} {mE : Mm} (hF : Fin' X G ρ n (some .int) (some (.int rE)) (RT t u w v x) mE) {x1 : Int32} {x2 : Int32} {x3 : Int32} {x4 : Int32} {m : Mm} (h : f_X8_diskIn a x1 x2 x3 x4 m = some (rE, mE)) : J X G ρ n 6 0 [(0, .ref a), (1, .int x1), (2, .int x2), (3, .int x3), (4, .int x4)] [] (RT t u w v x) m := by
  unfold f_X8_diskIn at h
  refine J_aload_n hX dX8_diskIn_0 rfl 0 rfl ?_
  refine J_getR hX dX8_diskIn_1 fl_RX8_18 (ltn (lt_isTo_0 ha) hn) (lo_isTo_0 ha) rfl (rt_isTo_0_5 _ _ _ _ _ ha) ?_
  refine J_iload_n hX dX8_diskIn_4 rfl 1 rfl ?_
  refine J_iconst hX (5 : Int32) dX8_diskIn_5 ic_5 ?_
  refine J_imul hX dX8_diskIn_6 ?_
  refine J_iload_n hX dX8_diskIn_7 rfl 2 rfl ?_
  refine J_iadd hX dX8_diskIn_8 ?_
  refine J_iaload hX dX8_diskIn_9 (ltn (lt_isTo_3 ha) hn) (lay_isTo_3 ha) h (fun h => ?_)
  refine J_istore hX [(5, .int (gI m (a + 3) (ix ((x1 * (5 : Int32)) + x2)))), (0, .ref a), (1, .int x1), (2, .int x2), (3, .int x3), (4, .int x4)] dX8_diskIn_10 (by decide) rfl ?_
  refine J_aload_n hX dX8_diskIn_12 rfl 1 rfl ?_
  refine J_getR hX dX8_diskIn_13 fl_RX8_9 (ltn (lt_isTo_0 ha) hn) (lo_isTo_0 ha) rfl (rt_isTo_0_3 _ _ _ _ _ ha) ?_
  refine J_iload_n hX dX8_diskIn_16 rfl 2 rfl ?_
  refine J_iaload hX dX8_diskIn_17 (ltn (lt_isTo_1 ha) hn) (lay_isTo_1 ha) h (fun h => ?_)
  refine J_iconst hX (1 : Int32) dX8_diskIn_18 ic_1 ?_
  refine J_icmp_ne hX 35 dX8_diskIn_19 (by decide) h (fun c h => ?_) (fun c h => ?_)
  · refine J_iload hX dX8_diskIn_22 5 rfl ?_
    refine J_if_le hX 35 dX8_diskIn_24 (by decide) h (fun c h => ?_) (fun c h => ?_)
    · refine J_iload hX dX8_diskIn_27 0 rfl ?_
      refine J_iload_n hX dX8_diskIn_29 rfl 4 rfl ?_
      refine J_iadd hX dX8_diskIn_30 ?_
      refine J_iload hX dX8_diskIn_31 5 rfl ?_
      refine J_irem hX dX8_diskIn_33 h (fun h => ?_)
      exact J_ireturn hX dX8_diskIn_34 h hF rfl
    · refine J_sub [(0, .ref a), (1, .int x1), (3, .int x3), (4, .int x4), (5, .int (gI m (a + 3) (ix ((x1 * (5 : Int32)) + x2))))] [1, 2, 4, 5, 0] rfl ?_
      exact t_X8_diskIn_J35 hX hd0 hn ha hF x1 x3 x4 (gI m (a + 3) (ix ((x1 * (5 : Int32)) + x2)))  m h
  · refine J_sub [(0, .ref a), (1, .int x1), (3, .int x3), (4, .int x4), (5, .int (gI m (a + 3) (ix ((x1 * (5 : Int32)) + x2))))] [1, 2, 4, 5, 0] rfl ?_
    exact t_X8_diskIn_J35 hX hd0 hn ha hF x1 x3 x4 (gI m (a + 3) (ix ((x1 * (5 : Int32)) + x2)))  m h
theorem c_X8_diskIn {G : GG} {l : Launch} {ρ : Nat → Nat} {n t u w v : Nat} {x : Option Nat} (hn : 126 ≤ n) {a : Nat} (ha : isTo a) {x1 : Int32} {x2 : Int32} {x3 : Int32} {x4 : Int32} {m : Mm} {rE : Int32} {mE : Mm} (h : f_X8_diskIn a x1 x2 x3 x4 m = some (rE, mE)) : CT G l yX8_diskIn cX8_diskIn 6 (some .int) 0 0 0 ρ n (RT t u w v x) [.ref a, .int x1, .int x2, .int x3, .int x4] m (some (.int rE)) (RT t u w v x) mE := ct_of_J (by decide) rfl (Nat.le_of_ble_eq_true rfl) (fun X hX e1 e2 e3 e4 hQ hr hl => t_X8_diskIn hX (Nat.le_refl _) hn ha ⟨by rw [hQ, e3, e4], hr, hl⟩ h)
theorem t_X3_push {X : XX} {G : GG} {ρ : Nat → Nat} {n t u w v : Nat} {x : Option Nat} {d : Nat} {a : Nat} (hX : Ok X G ρ cX3_push 2 RX3 d) (hd0 : 0 ≤ d) (hn : 126 ≤ n) (ha : isLw a) {mE : Mm} (hF : Fin' X G ρ n none none (RT t u w v x) mE) {x1 : Int32} {m : Mm} (h : f_X3_push a x1 m = some mE) : J X G ρ n 2 0 [(0, .ref a), (1, .int x1)] [] (RT t u w v x) m := by
  unfold f_X3_push at h
  refine J_aload_n hX dX3_push_0 rfl 0 rfl ?_
  refine J_getI hX dX3_push_1 fl_RX3_22 (ltn (lt_isLw_0 ha) hn) (lo_isLw_0 ha) rfl ?_
  refine J_aload_n hX dX3_push_4 rfl 0 rfl ?_
  refine J_getR hX dX3_push_5 fl_RX3_15 (ltn (lt_isLw_0 ha) hn) (lo_isLw_0 ha) rfl (rt_isLw_0_2 _ _ _ _ _ ha) ?_
  refine J_alen hX (24 : Int32) dX3_push_8 (ltn (lt_isLw_2 ha) hn) (lay_isLw_2 ha) (by decide) (by decide) ?_
  refine J_icmp_ge hX 32 dX3_push_9 (by decide) h (fun c h => ?_) (fun c h => ?_)
  · refine J_aload_n hX dX3_push_12 rfl 0 rfl ?_
    refine J_getR hX dX3_push_13 fl_RX3_15 (ltn (lt_isLw_0 ha) hn) (lo_isLw_0 ha) rfl (rt_isLw_0_2 _ _ _ _ _ ha) ?_
    refine J_aload_n hX dX3_push_16 rfl 0 rfl ?_
    refine J_getI hX dX3_push_17 fl_RX3_22 (ltn (lt_isLw_0 ha) hn) (lo_isLw_0 ha) rfl ?_
    refine J_iload_n hX dX3_push_20 rfl 1 rfl ?_
    refine J_iastore hX dX3_push_21 (ltn (lt_isLw_2 ha) hn) (lay_isLw_2 ha) h (fun m1 h => ?_)
    refine J_aload_n hX dX3_push_22 rfl 0 rfl ?_
    refine J_dup hX dX3_push_23 rfl ?_
    refine J_getI hX dX3_push_24 fl_RX3_22 (ltn (lt_isLw_0 ha) hn) (lo_isLw_0 ha) rfl ?_
    refine J_iconst hX (1 : Int32) dX3_push_27 ic_1 ?_
    refine J_iadd hX dX3_push_28 ?_
    refine J_putI hX dX3_push_29 pl_RX3_22 (ltn (lt_isLw_0 ha) hn) (lo_isLw_0 ha) rfl rfl rfl h (fun m2 h => ?_)
    exact J_return hX dX3_push_32 h hF
  · exact J_return hX dX3_push_32 h hF
theorem c_X3_push {G : GG} {l : Launch} {ρ : Nat → Nat} {n t u w v : Nat} {x : Option Nat} (hn : 126 ≤ n) {a : Nat} (ha : isLw a) {x1 : Int32} {m : Mm} {mE : Mm} (h : f_X3_push a x1 m = some mE) : CT G l yX3_push cX3_push 2 none 0 0 0 ρ n (RT t u w v x) [.ref a, .int x1] m none (RT t u w v x) mE := ct_of_J (by decide) rfl (Nat.le_of_ble_eq_true rfl) (fun X hX e1 e2 e3 e4 hQ hr hl => t_X3_push hX (Nat.le_refl _) hn ha ⟨by rw [hQ, e3, e4], hr, hl⟩ h)
theorem t_X3_pop {X : XX} {G : GG} {ρ : Nat → Nat} {n t u w v : Nat} {x : Option Nat} {d : Nat} {a : Nat} (hX : Ok X G ρ cX3_pop 1 RX3 d) (hd0 : 0 ≤ d) (hn : 126 ≤ n) (ha : isLw a) {rE : Int32} {mE : Mm} (hF : Fin' X G ρ n (some .int) (some (.int rE)) (RT t u w v x) mE) {m : Mm} (h : f_X3_pop a m = some (rE, mE)) : J X G ρ n 1 0 [(0, .ref a)] [] (RT t u w v x) m := by
  unfold f_X3_pop at h
  refine J_aload_n hX dX3_pop_0 rfl 0 rfl ?_
  refine J_getI hX dX3_pop_1 fl_RX3_22 (ltn (lt_isLw_0 ha) hn) (lo_isLw_0 ha) rfl ?_
  refine J_iconst hX (1 : Int32) dX3_pop_4 ic_1 ?_
  refine J_icmp_ge hX 10 dX3_pop_5 (by decide) h (fun c h => ?_) (fun c h => ?_)
  · refine J_iconst hX (0 : Int32) dX3_pop_8 ic_0 ?_
    exact J_ireturn hX dX3_pop_9 h hF rfl
  · refine J_aload_n hX dX3_pop_10 rfl 0 rfl ?_
    refine J_dup hX dX3_pop_11 rfl ?_
    refine J_getI hX dX3_pop_12 fl_RX3_22 (ltn (lt_isLw_0 ha) hn) (lo_isLw_0 ha) rfl ?_
    refine J_iconst hX (1 : Int32) dX3_pop_15 ic_1 ?_
    refine J_isub hX dX3_pop_16 ?_
    refine J_putI hX dX3_pop_17 pl_RX3_22 (ltn (lt_isLw_0 ha) hn) (lo_isLw_0 ha) rfl rfl rfl h (fun m1 h => ?_)
    refine J_aload_n hX dX3_pop_20 rfl 0 rfl ?_
    refine J_getR hX dX3_pop_21 fl_RX3_15 (ltn (lt_isLw_0 ha) hn) (lo_isLw_0 ha) rfl (rt_isLw_0_2 _ _ _ _ _ ha) ?_
    refine J_aload_n hX dX3_pop_24 rfl 0 rfl ?_
    refine J_getI hX dX3_pop_25 fl_RX3_22 (ltn (lt_isLw_0 ha) hn) (lo_isLw_0 ha) rfl ?_
    refine J_iaload hX dX3_pop_28 (ltn (lt_isLw_2 ha) hn) (lay_isLw_2 ha) h (fun h => ?_)
    exact J_ireturn hX dX3_pop_29 h hF rfl
theorem c_X3_pop {G : GG} {l : Launch} {ρ : Nat → Nat} {n t u w v : Nat} {x : Option Nat} (hn : 126 ≤ n) {a : Nat} (ha : isLw a) {m : Mm} {rE : Int32} {mE : Mm} (h : f_X3_pop a m = some (rE, mE)) : CT G l yX3_pop cX3_pop 1 (some .int) 0 0 0 ρ n (RT t u w v x) [.ref a] m (some (.int rE)) (RT t u w v x) mE := ct_of_J (by decide) rfl (Nat.le_of_ble_eq_true rfl) (fun X hX e1 e2 e3 e4 hQ hr hl => t_X3_pop hX (Nat.le_refl _) hn ha ⟨by rw [hQ, e3, e4], hr, hl⟩ h)
theorem t_X3_joined {X : XX} {G : GG} {ρ : Nat → Nat} {n t u w v : Nat} {x : Option Nat} {d : Nat} (hX : Ok X G ρ cX3_joined 3 RX3 d) (hd0 : 0 ≤ d) (hn : 126 ≤ n) {rE : Int32} {mE : Mm} (hF : Fin' X G ρ n (some .int) (some (.int rE)) (RT t u w v x) mE) {x0 : Int32} {x1 : Int32} {x2 : Int32} {m : Mm} (h : f_X3_joined x0 x1 x2 m = some (rE, mE)) : J X G ρ n 3 0 [(0, .int x0), (1, .int x1), (2, .int x2)] [] (RT t u w v x) m := by
  unfold f_X3_joined at h
  refine J_iload_n hX dX3_joined_0 rfl 0 rfl ?_
  refine J_split h (fun c0 h => ?_) (fun c0 h => ?_)
  · refine J_tabIn hX 94 (-12 : Int32) dX3_joined_1 c0 (by decide) (by decide) (by decide) (by decide) ?_
    refine J_iload_n hX dX3_joined_94 rfl 1 rfl ?_
    refine J_iload_n hX dX3_joined_95 rfl 2 rfl ?_
    refine J_isub hX dX3_joined_96 ?_
    exact J_ireturn hX dX3_joined_97 h hF rfl
  · refine J_split h (fun c1 h => ?_) (fun c1 h => ?_)
    · refine J_tabIn hX 90 (-11 : Int32) dX3_joined_1 c1 (by decide) (by decide) (by decide) (by decide) ?_
      refine J_iload_n hX dX3_joined_90 rfl 1 rfl ?_
      refine J_iload_n hX dX3_joined_91 rfl 2 rfl ?_
      refine J_iadd hX dX3_joined_92 ?_
      exact J_ireturn hX dX3_joined_93 h hF rfl
    · refine J_split h (fun c2 h => ?_) (fun c2 h => ?_)
      · refine J_tabIn hX 79 (-10 : Int32) dX3_joined_1 c2 (by decide) (by decide) (by decide) (by decide) ?_
        refine J_iload_n hX dX3_joined_79 rfl 1 rfl ?_
        refine J_iload_n hX dX3_joined_80 rfl 2 rfl ?_
        refine J_icmp_ne hX 88 dX3_joined_81 (by decide) h (fun c h => ?_) (fun c h => ?_)
        · refine J_iconst hX (1 : Int32) dX3_joined_84 ic_1 ?_
          refine J_goto hX 89 dX3_joined_85 (by decide) ?_
          exact J_ireturn hX dX3_joined_89 h hF rfl
        · refine J_iconst hX (0 : Int32) dX3_joined_88 ic_0 ?_
          exact J_ireturn hX dX3_joined_89 h hF rfl
      · refine J_split h (fun c3 h => ?_) (fun c3 h => ?_)
        · refine J_tabIn hX 68 (-9 : Int32) dX3_joined_1 c3 (by decide) (by decide) (by decide) (by decide) ?_
          refine J_iload_n hX dX3_joined_68 rfl 1 rfl ?_
          refine J_iload_n hX dX3_joined_69 rfl 2 rfl ?_
          refine J_icmp_ge hX 77 dX3_joined_70 (by decide) h (fun c h => ?_) (fun c h => ?_)
          · refine J_iconst hX (1 : Int32) dX3_joined_73 ic_1 ?_
            refine J_goto hX 78 dX3_joined_74 (by decide) ?_
            exact J_ireturn hX dX3_joined_78 h hF rfl
          · refine J_iconst hX (0 : Int32) dX3_joined_77 ic_0 ?_
            exact J_ireturn hX dX3_joined_78 h hF rfl
        · refine J_split h (fun c4 h => ?_) (fun c4 h => ?_)
          · refine J_tabIn hX 54 (-8 : Int32) dX3_joined_1 c4 (by decide) (by decide) (by decide) (by decide) ?_
            refine J_iload_n hX dX3_joined_54 rfl 1 rfl ?_
            refine J_if_ne hX 62 dX3_joined_55 (by decide) h (fun c h => ?_) (fun c h => ?_)
            · refine J_iload_n hX dX3_joined_58 rfl 2 rfl ?_
              refine J_if_eq hX 66 dX3_joined_59 (by decide) h (fun c h => ?_) (fun c h => ?_)
              · refine J_iconst hX (0 : Int32) dX3_joined_66 ic_0 ?_
                exact J_ireturn hX dX3_joined_67 h hF rfl
              · refine J_iconst hX (1 : Int32) dX3_joined_62 ic_1 ?_
                refine J_goto hX 67 dX3_joined_63 (by decide) ?_
                exact J_ireturn hX dX3_joined_67 h hF rfl
            · refine J_iconst hX (1 : Int32) dX3_joined_62 ic_1 ?_
              refine J_goto hX 67 dX3_joined_63 (by decide) ?_
              exact J_ireturn hX dX3_joined_67 h hF rfl
          · refine J_split h (fun c5 h => ?_) (fun c5 h => ?_)
            · refine J_tabIn hX 40 (-7 : Int32) dX3_joined_1 c5 (by decide) (by decide) (by decide) (by decide) ?_
              refine J_iload_n hX dX3_joined_40 rfl 1 rfl ?_
              refine J_if_eq hX 52 dX3_joined_41 (by decide) h (fun c h => ?_) (fun c h => ?_)
              · refine J_iconst hX (0 : Int32) dX3_joined_52 ic_0 ?_
                exact J_ireturn hX dX3_joined_53 h hF rfl
              · refine J_iload_n hX dX3_joined_44 rfl 2 rfl ?_
                refine J_if_eq hX 52 dX3_joined_45 (by decide) h (fun c h => ?_) (fun c h => ?_)
                · refine J_iconst hX (0 : Int32) dX3_joined_52 ic_0 ?_
                  exact J_ireturn hX dX3_joined_53 h hF rfl
                · refine J_iconst hX (1 : Int32) dX3_joined_48 ic_1 ?_
                  refine J_goto hX 53 dX3_joined_49 (by decide) ?_
                  exact J_ireturn hX dX3_joined_53 h hF rfl
            · refine J_tabOut hX 98 [(-12 : Int32), (-11 : Int32), (-10 : Int32), (-9 : Int32), (-8 : Int32), (-7 : Int32)] dX3_joined_1 (by decide) (by simp only [List.mem_cons, List.not_mem_nil, or_false, not_or]; exact ⟨c0, c1, c2, c3, c4, c5⟩) (by decide) ?_
              refine J_iload_n hX dX3_joined_98 rfl 1 rfl ?_
              refine J_iload_n hX dX3_joined_99 rfl 2 rfl ?_
              refine J_imul hX dX3_joined_100 ?_
              exact J_ireturn hX dX3_joined_101 h hF rfl
theorem c_X3_joined {G : GG} {l : Launch} {ρ : Nat → Nat} {n t u w v : Nat} {x : Option Nat} (hn : 126 ≤ n) {x0 : Int32} {x1 : Int32} {x2 : Int32} {m : Mm} {rE : Int32} {mE : Mm} (h : f_X3_joined x0 x1 x2 m = some (rE, mE)) : CT G l yX3_joined cX3_joined 3 (some .int) 0 0 0 ρ n (RT t u w v x) [.int x0, .int x1, .int x2] m (some (.int rE)) (RT t u w v x) mE := ct_of_J (by decide) rfl (Nat.le_of_ble_eq_true rfl) (fun X hX e1 e2 e3 e4 hQ hr hl => t_X3_joined hX (Nat.le_refl _) hn ⟨by rw [hQ, e3, e4], hr, hl⟩ h)
theorem t_X3_pushOther {X : XX} {G : GG} {ρ : Nat → Nat} {n t u w v : Nat} {x : Option Nat} {d : Nat} {a : Nat} (hX : Ok X G ρ cX3_pushOther 4 RX3 d) (hd0 : 1 ≤ d) (hn : 126 ≤ n) (ha : isLw a) {mE : Mm} (hF : Fin' X G ρ n none none (RT t u w v x) mE) {x1 : Int32} {m : Mm} (h : f_X3_pushOther a x1 m = some mE) : J X G ρ n 4 0 [(0, .ref a), (1, .int x1)] [] (RT t u w v x) m := by
  unfold f_X3_pushOther at h
  refine J_iload_n hX dX3_pushOther_0 rfl 1 rfl ?_
  refine J_if_lt hX 12 dX3_pushOther_1 (by decide) h (fun c h => ?_) (fun c h => ?_)
  · refine J_aload_n hX dX3_pushOther_12 rfl 0 rfl ?_
    obtain ⟨r2, m1, h0, h⟩ := bd2_some h
    refine J_callVi (As := []) (st := []) hX dX3_pushOther_13 cw_RX3_29 (by omega) (c_X3_pop hn ha h0) (ltn (lt_isLw_0 ha) hn) (lo_isLw_0 ha) (by decide) rfl rfl rfl (Nat.le_of_ble_eq_true rfl) ?_
    clear h0
    refine J_istore_n hX [(2, .int r2), (0, .ref a), (1, .int x1)] dX3_pushOther_16 rfl (by decide) rfl ?_
    refine J_aload_n hX dX3_pushOther_17 rfl 1 rfl ?_
    obtain ⟨r4, m3, h0, h⟩ := bd2_some h
    refine J_callVi (As := []) (st := []) hX dX3_pushOther_18 cw_RX3_29 (by omega) (c_X3_pop hn ha h0) (ltn (lt_isLw_0 ha) hn) (lo_isLw_0 ha) (by decide) rfl rfl rfl (Nat.le_of_ble_eq_true rfl) ?_
    clear h0
    refine J_istore_n hX [(3, .int r4), (2, .int r2), (0, .ref a), (1, .int x1)] dX3_pushOther_21 rfl (by decide) rfl ?_
    refine J_aload_n hX dX3_pushOther_22 rfl 2 rfl ?_
    refine J_iload_n hX dX3_pushOther_23 rfl 3 rfl ?_
    refine J_iload_n hX dX3_pushOther_24 rfl 0 rfl ?_
    refine J_iload_n hX dX3_pushOther_25 rfl 1 rfl ?_
    obtain ⟨r6, m5, h0, h⟩ := bd2_some h
    refine J_callSi (As := [.int x1, .int r4, .int r2]) (st := [.ref a]) hX dX3_pushOther_26 cw_RX3_42 (by omega) (c_X3_joined hn  h0) rfl rfl (Nat.le_of_ble_eq_true rfl) ?_
    clear h0
    obtain ⟨m7, h0, h⟩ := bd1_some h
    refine J_callVv (As := [.int r6]) (st := []) hX dX3_pushOther_29 cw_RX3_25 (by omega) (c_X3_push hn ha h0) (ltn (lt_isLw_0 ha) hn) (lo_isLw_0 ha) (by decide) rfl rfl rfl (Nat.le_of_ble_eq_true rfl) ?_
    clear h0
    exact J_return hX dX3_pushOther_32 h hF
  · refine J_aload_n hX dX3_pushOther_4 rfl 0 rfl ?_
    refine J_iload_n hX dX3_pushOther_5 rfl 1 rfl ?_
    obtain ⟨m8, h0, h⟩ := bd1_some h
    refine J_callVv (As := [.int x1]) (st := []) hX dX3_pushOther_6 cw_RX3_25 (by omega) (c_X3_push hn ha h0) (ltn (lt_isLw_0 ha) hn) (lo_isLw_0 ha) (by decide) rfl rfl rfl (Nat.le_of_ble_eq_true rfl) ?_
    clear h0
    refine J_goto hX 32 dX3_pushOther_9 (by decide) ?_
    exact J_return hX dX3_pushOther_32 h hF
theorem c_X3_pushOther {G : GG} {l : Launch} {ρ : Nat → Nat} {n t u w v : Nat} {x : Option Nat} (hn : 126 ≤ n) {a : Nat} (ha : isLw a) {x1 : Int32} {m : Mm} {mE : Mm} (h : f_X3_pushOther a x1 m = some mE) : CT G l yX3_pushOther cX3_pushOther 4 none 1 0 0 ρ n (RT t u w v x) [.ref a, .int x1] m none (RT t u w v x) mE := ct_of_J (by decide) rfl (Nat.le_of_ble_eq_true rfl) (fun X hX e1 e2 e3 e4 hQ hr hl => t_X3_pushOther hX (Nat.le_refl _) hn ha ⟨by rw [hQ, e3, e4], hr, hl⟩ h)
theorem t_J9_floorMod_7cf53 {X : XX} {G : GG} {ρ : Nat → Nat} {n t u w v : Nat} {x : Option Nat} {d : Nat} (hX : Ok X G ρ cJ9_floorMod_7cf53 3 RJ9 d) (hd0 : 0 ≤ d) (hn : 126 ≤ n) {rE : Int32} {mE : Mm} (hF : Fin' X G ρ n (some .int) (some (.int rE)) (RT t u w v x) mE) {x0 : Int32} {x1 : Int32} {m : Mm} (h : f_J9_floorMod_7cf53 x0 x1 m = some (rE, mE)) : J X G ρ n 3 0 [(0, .int x0), (1, .int x1)] [] (RT t u w v x) m := by
  unfold f_J9_floorMod_7cf53 at h
  refine J_iload_n hX dJ9_floorMod_7cf53_0 rfl 0 rfl ?_
  refine J_iload_n hX dJ9_floorMod_7cf53_1 rfl 1 rfl ?_
  refine J_irem hX dJ9_floorMod_7cf53_2 h (fun h => ?_)
  refine J_istore_n hX [(2, .int (x0 - x0 / x1 * x1)), (0, .int x0), (1, .int x1)] dJ9_floorMod_7cf53_3 rfl (by decide) rfl ?_
  refine J_iload_n hX dJ9_floorMod_7cf53_4 rfl 1 rfl ?_
  refine J_iload_n hX dJ9_floorMod_7cf53_5 rfl 2 rfl ?_
  refine J_ixor hX dJ9_floorMod_7cf53_6 ?_
  refine J_if_ge hX 18 dJ9_floorMod_7cf53_7 (by decide) h (fun c h => ?_) (fun c h => ?_)
  · refine J_iload_n hX dJ9_floorMod_7cf53_10 rfl 0 rfl ?_
    refine J_if_eq hX 18 dJ9_floorMod_7cf53_11 (by decide) h (fun c h => ?_) (fun c h => ?_)
    · refine J_iload_n hX dJ9_floorMod_7cf53_18 rfl 0 rfl ?_
      exact J_ireturn hX dJ9_floorMod_7cf53_19 h hF rfl
    · refine J_iload_n hX dJ9_floorMod_7cf53_14 rfl 0 rfl ?_
      refine J_iload_n hX dJ9_floorMod_7cf53_15 rfl 2 rfl ?_
      refine J_iadd hX dJ9_floorMod_7cf53_16 ?_
      exact J_ireturn hX dJ9_floorMod_7cf53_17 h hF rfl
  · refine J_iload_n hX dJ9_floorMod_7cf53_18 rfl 0 rfl ?_
    exact J_ireturn hX dJ9_floorMod_7cf53_19 h hF rfl
theorem c_J9_floorMod_7cf53 {G : GG} {l : Launch} {ρ : Nat → Nat} {n t u w v : Nat} {x : Option Nat} (hn : 126 ≤ n) {x0 : Int32} {x1 : Int32} {m : Mm} {rE : Int32} {mE : Mm} (h : f_J9_floorMod_7cf53 x0 x1 m = some (rE, mE)) : CT G l yJ9_floorMod_7cf53 cJ9_floorMod_7cf53 3 (some .int) 0 0 0 ρ n (RT t u w v x) [.int x0, .int x1] m (some (.int rE)) (RT t u w v x) mE := ct_of_J (by decide +kernel) rfl (Nat.le_of_ble_eq_true rfl) (fun X hX e1 e2 e3 e4 hQ hr hl => t_J9_floorMod_7cf53 hX (Nat.le_refl _) hn ⟨by rw [hQ, e3, e4], hr, hl⟩ h)
theorem t_X3_parityOf_L15 {X : XX} {G : GG} {ρ : Nat → Nat} {n t u w v : Nat} {x : Option Nat} {d : Nat} {a : Nat} (hX : Ok X G ρ cX3_parityOf 6 RX3 d) (hd0 : 2 ≤ d) (hn : 126 ≤ n) (ha : isLw a) {rE : Int32} {mE : Mm} (hF : Fin' X G ρ n (some .int) (some (.int rE)) (RT t u w v x) mE) : ∀ (k : Nat) (v1 : Int32) (v2 : Int32) (v3 : Int32) (v4 : Int32) (v5 : Int32) (m : Mm), f_X3_parityOf_L15 a k v1 v2 v3 v4 v5 m = some (rE, mE) → J X G ρ n 6 15 [(0, .ref a), (1, .int v1), (2, .int v2), (3, .int v3), (4, .int v4), (5, .int v5)] [] (RT t u w v x) m := by
  intro k
  induction k with
  | zero => intro _ _ _ _ _ _ h; rw [f_X3_parityOf_L15] at h; cases h
  | succ k ih =>
    intro v1 v2 v3 v4 v5 m h
    rw [f_X3_parityOf_L15] at h
    refine J_iload hX dX3_parityOf_15 5 rfl ?_
    refine J_aload_n hX dX3_parityOf_17 rfl 0 rfl ?_
    refine J_getI hX dX3_parityOf_18 fl_RX3_18 (ltn (lt_isLw_0 ha) hn) (lo_isLw_0 ha) rfl ?_
    refine J_icmp_ge hX 133 dX3_parityOf_21 (by decide) h (fun c h => ?_) (fun c h => ?_)
    · refine J_aload_n hX dX3_parityOf_24 rfl 0 rfl ?_
      refine J_getR hX dX3_parityOf_25 fl_RX3_9 (ltn (lt_isLw_0 ha) hn) (lo_isLw_0 ha) rfl (rt_isLw_0_0 _ _ _ _ _ ha) ?_
      refine J_iload hX dX3_parityOf_28 5 rfl ?_
      refine J_iaload hX dX3_parityOf_30 (ltn (lt_isLw_1 ha) hn) (lay_isLw_1 ha) h (fun h => ?_)
      refine J_split h (fun c0 h => ?_) (fun c0 h => ?_)
      · refine J_tabIn hX 97 (-6 : Int32) dX3_parityOf_31 c0 (by decide) (by decide) (by decide) (by decide) ?_
        refine J_aload_n hX dX3_parityOf_97 rfl 0 rfl ?_
        refine J_aload_n hX dX3_parityOf_98 rfl 0 rfl ?_
        obtain ⟨r9, m8, h0, h⟩ := bd2_some h
        refine J_callVi (As := []) (st := [.ref a]) hX dX3_parityOf_99 cw_RX3_29 (by omega) (c_X3_pop hn ha h0) (ltn (lt_isLw_0 ha) hn) (lo_isLw_0 ha) (by decide) rfl rfl rfl (Nat.le_of_ble_eq_true rfl) ?_
        clear h0
        refine J_if_ne hX 109 dX3_parityOf_102 (by decide) h (fun c h => ?_) (fun c h => ?_)
        · refine J_iconst hX (1 : Int32) dX3_parityOf_105 ic_1 ?_
          refine J_goto hX 110 dX3_parityOf_106 (by decide) ?_
          obtain ⟨m11, h0, h⟩ := bd1_some h
          refine J_callVv (As := [.int (1 : Int32)]) (st := []) hX dX3_parityOf_110 cw_RX3_25 (by omega) (c_X3_push hn ha h0) (ltn (lt_isLw_0 ha) hn) (lo_isLw_0 ha) (by decide) rfl rfl rfl (Nat.le_of_ble_eq_true rfl) ?_
          clear h0
          refine J_goto hX 127 dX3_parityOf_113 (by decide) ?_
          refine J_iinc hX (v5 + (1 : Int32)) [(5, .int (v5 + (1 : Int32))), (0, .ref a), (1, .int v1), (2, .int v2), (3, .int v3), (4, .int v4)] dX3_parityOf_127 5 rfl (congrArg (fun z => v5 + z) ic_1) (by decide) rfl ?_
          refine J_goto hX 15 dX3_parityOf_130 (by decide) ?_
          refine J_sub [(0, .ref a), (1, .int v1), (2, .int v2), (3, .int v3), (4, .int v4), (5, .int (v5 + (1 : Int32)))] [1, 2, 3, 4, 5, 0] rfl ?_
          exact ih v1 v2 v3 v4 (v5 + (1 : Int32)) m11 h
        · refine J_iconst hX (0 : Int32) dX3_parityOf_109 ic_0 ?_
          obtain ⟨m10, h0, h⟩ := bd1_some h
          refine J_callVv (As := [.int (0 : Int32)]) (st := []) hX dX3_parityOf_110 cw_RX3_25 (by omega) (c_X3_push hn ha h0) (ltn (lt_isLw_0 ha) hn) (lo_isLw_0 ha) (by decide) rfl rfl rfl (Nat.le_of_ble_eq_true rfl) ?_
          clear h0
          refine J_goto hX 127 dX3_parityOf_113 (by decide) ?_
          refine J_iinc hX (v5 + (1 : Int32)) [(5, .int (v5 + (1 : Int32))), (0, .ref a), (1, .int v1), (2, .int v2), (3, .int v3), (4, .int v4)] dX3_parityOf_127 5 rfl (congrArg (fun z => v5 + z) ic_1) (by decide) rfl ?_
          refine J_goto hX 15 dX3_parityOf_130 (by decide) ?_
          refine J_sub [(0, .ref a), (1, .int v1), (2, .int v2), (3, .int v3), (4, .int v4), (5, .int (v5 + (1 : Int32)))] [1, 2, 3, 4, 5, 0] rfl ?_
          exact ih v1 v2 v3 v4 (v5 + (1 : Int32)) m10 h
      · refine J_split h (fun c1 h => ?_) (fun c1 h => ?_)
        · refine J_tabIn hX 88 (-5 : Int32) dX3_parityOf_31 c1 (by decide) (by decide) (by decide) (by decide) ?_
          refine J_aload_n hX dX3_parityOf_88 rfl 0 rfl ?_
          refine J_iload hX dX3_parityOf_89 4 rfl ?_
          obtain ⟨m12, h0, h⟩ := bd1_some h
          refine J_callVv (As := [.int v4]) (st := []) hX dX3_parityOf_91 cw_RX3_25 (by omega) (c_X3_push hn ha h0) (ltn (lt_isLw_0 ha) hn) (lo_isLw_0 ha) (by decide) rfl rfl rfl (Nat.le_of_ble_eq_true rfl) ?_
          clear h0
          refine J_goto hX 127 dX3_parityOf_94 (by decide) ?_
          refine J_iinc hX (v5 + (1 : Int32)) [(5, .int (v5 + (1 : Int32))), (0, .ref a), (1, .int v1), (2, .int v2), (3, .int v3), (4, .int v4)] dX3_parityOf_127 5 rfl (congrArg (fun z => v5 + z) ic_1) (by decide) rfl ?_
          refine J_goto hX 15 dX3_parityOf_130 (by decide) ?_
          refine J_sub [(0, .ref a), (1, .int v1), (2, .int v2), (3, .int v3), (4, .int v4), (5, .int (v5 + (1 : Int32)))] [1, 2, 3, 4, 5, 0] rfl ?_
          exact ih v1 v2 v3 v4 (v5 + (1 : Int32)) m12 h
        · refine J_split h (fun c2 h => ?_) (fun c2 h => ?_)
          · refine J_tabIn hX 80 (-4 : Int32) dX3_parityOf_31 c2 (by decide) (by decide) (by decide) (by decide) ?_
            refine J_aload_n hX dX3_parityOf_80 rfl 0 rfl ?_
            refine J_iload_n hX dX3_parityOf_81 rfl 3 rfl ?_
            obtain ⟨m13, h0, h⟩ := bd1_some h
            refine J_callVv (As := [.int v3]) (st := []) hX dX3_parityOf_82 cw_RX3_25 (by omega) (c_X3_push hn ha h0) (ltn (lt_isLw_0 ha) hn) (lo_isLw_0 ha) (by decide) rfl rfl rfl (Nat.le_of_ble_eq_true rfl) ?_
            clear h0
            refine J_goto hX 127 dX3_parityOf_85 (by decide) ?_
            refine J_iinc hX (v5 + (1 : Int32)) [(5, .int (v5 + (1 : Int32))), (0, .ref a), (1, .int v1), (2, .int v2), (3, .int v3), (4, .int v4)] dX3_parityOf_127 5 rfl (congrArg (fun z => v5 + z) ic_1) (by decide) rfl ?_
            refine J_goto hX 15 dX3_parityOf_130 (by decide) ?_
            refine J_sub [(0, .ref a), (1, .int v1), (2, .int v2), (3, .int v3), (4, .int v4), (5, .int (v5 + (1 : Int32)))] [1, 2, 3, 4, 5, 0] rfl ?_
            exact ih v1 v2 v3 v4 (v5 + (1 : Int32)) m13 h
          · refine J_split h (fun c3 h => ?_) (fun c3 h => ?_)
            · refine J_tabIn hX 72 (-3 : Int32) dX3_parityOf_31 c3 (by decide) (by decide) (by decide) (by decide) ?_
              refine J_aload_n hX dX3_parityOf_72 rfl 0 rfl ?_
              refine J_iload_n hX dX3_parityOf_73 rfl 2 rfl ?_
              obtain ⟨m14, h0, h⟩ := bd1_some h
              refine J_callVv (As := [.int v2]) (st := []) hX dX3_parityOf_74 cw_RX3_25 (by omega) (c_X3_push hn ha h0) (ltn (lt_isLw_0 ha) hn) (lo_isLw_0 ha) (by decide) rfl rfl rfl (Nat.le_of_ble_eq_true rfl) ?_
              clear h0
              refine J_goto hX 127 dX3_parityOf_77 (by decide) ?_
              refine J_iinc hX (v5 + (1 : Int32)) [(5, .int (v5 + (1 : Int32))), (0, .ref a), (1, .int v1), (2, .int v2), (3, .int v3), (4, .int v4)] dX3_parityOf_127 5 rfl (congrArg (fun z => v5 + z) ic_1) (by decide) rfl ?_
              refine J_goto hX 15 dX3_parityOf_130 (by decide) ?_
              refine J_sub [(0, .ref a), (1, .int v1), (2, .int v2), (3, .int v3), (4, .int v4), (5, .int (v5 + (1 : Int32)))] [1, 2, 3, 4, 5, 0] rfl ?_
              exact ih v1 v2 v3 v4 (v5 + (1 : Int32)) m14 h
            · refine J_split h (fun c4 h => ?_) (fun c4 h => ?_)
              · refine J_tabIn hX 64 (-2 : Int32) dX3_parityOf_31 c4 (by decide) (by decide) (by decide) (by decide) ?_
                refine J_aload_n hX dX3_parityOf_64 rfl 0 rfl ?_
                refine J_iload_n hX dX3_parityOf_65 rfl 1 rfl ?_
                obtain ⟨m15, h0, h⟩ := bd1_some h
                refine J_callVv (As := [.int v1]) (st := []) hX dX3_parityOf_66 cw_RX3_25 (by omega) (c_X3_push hn ha h0) (ltn (lt_isLw_0 ha) hn) (lo_isLw_0 ha) (by decide) rfl rfl rfl (Nat.le_of_ble_eq_true rfl) ?_
                clear h0
                refine J_goto hX 127 dX3_parityOf_69 (by decide) ?_
                refine J_iinc hX (v5 + (1 : Int32)) [(5, .int (v5 + (1 : Int32))), (0, .ref a), (1, .int v1), (2, .int v2), (3, .int v3), (4, .int v4)] dX3_parityOf_127 5 rfl (congrArg (fun z => v5 + z) ic_1) (by decide) rfl ?_
                refine J_goto hX 15 dX3_parityOf_130 (by decide) ?_
                refine J_sub [(0, .ref a), (1, .int v1), (2, .int v2), (3, .int v3), (4, .int v4), (5, .int (v5 + (1 : Int32)))] [1, 2, 3, 4, 5, 0] rfl ?_
                exact ih v1 v2 v3 v4 (v5 + (1 : Int32)) m15 h
              · refine J_tabOut hX 116 [(-6 : Int32), (-5 : Int32), (-4 : Int32), (-3 : Int32), (-2 : Int32)] dX3_parityOf_31 (by decide) (by simp only [List.mem_cons, List.not_mem_nil, or_false, not_or]; exact ⟨c0, c1, c2, c3, c4⟩) (by decide) ?_
                refine J_aload_n hX dX3_parityOf_116 rfl 0 rfl ?_
                refine J_aload_n hX dX3_parityOf_117 rfl 0 rfl ?_
                refine J_getR hX dX3_parityOf_118 fl_RX3_9 (ltn (lt_isLw_0 ha) hn) (lo_isLw_0 ha) rfl (rt_isLw_0_0 _ _ _ _ _ ha) ?_
                refine J_iload hX dX3_parityOf_121 5 rfl ?_
                refine J_iaload hX dX3_parityOf_123 (ltn (lt_isLw_1 ha) hn) (lay_isLw_1 ha) h (fun h => ?_)
                obtain ⟨m16, h0, h⟩ := bd1_some h
                refine J_callVv (As := [.int (gI m (a + 1) (ix v5))]) (st := []) hX dX3_parityOf_124 cw_RX3_33 (by omega) (c_X3_pushOther hn ha h0) (ltn (lt_isLw_0 ha) hn) (lo_isLw_0 ha) (by decide) rfl rfl rfl (Nat.le_of_ble_eq_true rfl) ?_
                clear h0
                refine J_iinc hX (v5 + (1 : Int32)) [(5, .int (v5 + (1 : Int32))), (0, .ref a), (1, .int v1), (2, .int v2), (3, .int v3), (4, .int v4)] dX3_parityOf_127 5 rfl (congrArg (fun z => v5 + z) ic_1) (by decide) rfl ?_
                refine J_goto hX 15 dX3_parityOf_130 (by decide) ?_
                refine J_sub [(0, .ref a), (1, .int v1), (2, .int v2), (3, .int v3), (4, .int v4), (5, .int (v5 + (1 : Int32)))] [1, 2, 3, 4, 5, 0] rfl ?_
                exact ih v1 v2 v3 v4 (v5 + (1 : Int32)) m16 h
    · refine J_aload_n hX dX3_parityOf_133 rfl 0 rfl ?_
      refine J_getI hX dX3_parityOf_134 fl_RX3_18 (ltn (lt_isLw_0 ha) hn) (lo_isLw_0 ha) rfl ?_
      refine J_if_ne hX 144 dX3_parityOf_137 (by decide) h (fun c h => ?_) (fun c h => ?_)
      · refine J_iload_n hX dX3_parityOf_140 rfl 1 rfl ?_
        refine J_goto hX 148 dX3_parityOf_141 (by decide) ?_
        refine J_iload_n hX dX3_parityOf_148 rfl 2 rfl ?_
        obtain ⟨r7, m6, h0, h⟩ := bd2_some h
        refine J_callSi (As := [.int v1, .int v2]) (st := []) hX dX3_parityOf_149 cw_RX3_36 (by omega) (c_J9_floorMod_7cf53 hn  h0) rfl rfl (Nat.le_of_ble_eq_true rfl) ?_
        clear h0
        exact J_ireturn hX dX3_parityOf_152 h hF rfl
      · refine J_aload_n hX dX3_parityOf_144 rfl 0 rfl ?_
        obtain ⟨r3, m2, h0, h⟩ := bd2_some h
        refine J_callVi (As := []) (st := []) hX dX3_parityOf_145 cw_RX3_29 (by omega) (c_X3_pop hn ha h0) (ltn (lt_isLw_0 ha) hn) (lo_isLw_0 ha) (by decide) rfl rfl rfl (Nat.le_of_ble_eq_true rfl) ?_
        clear h0
        refine J_iload_n hX dX3_parityOf_148 rfl 2 rfl ?_
        obtain ⟨r5, m4, h0, h⟩ := bd2_some h
        refine J_callSi (As := [.int r3, .int v2]) (st := []) hX dX3_parityOf_149 cw_RX3_36 (by omega) (c_J9_floorMod_7cf53 hn  h0) rfl rfl (Nat.le_of_ble_eq_true rfl) ?_
        clear h0
        exact J_ireturn hX dX3_parityOf_152 h hF rfl
theorem t_X3_parityOf {X : XX} {G : GG} {ρ : Nat → Nat} {n t u w v : Nat} {x : Option Nat} {d : Nat} {a : Nat} (hX : Ok X G ρ cX3_parityOf 6 RX3 d) (hd0 : 2 ≤ d) (hn : 126 ≤ n) (ha : isLw a) {rE : Int32} {mE : Mm} (hF : Fin' X G ρ n (some .int) (some (.int rE)) (RT t u w v x) mE) {x1 : Int32} {x2 : Int32} {x3 : Int32} {x4 : Int32} {m : Mm} (h : f_X3_parityOf a x1 x2 x3 x4 m = some (rE, mE)) : J X G ρ n 6 0 [(0, .ref a), (1, .int x1), (2, .int x2), (3, .int x3), (4, .int x4)] [] (RT t u w v x) m := by
  unfold f_X3_parityOf at h
  refine J_iload_n hX dX3_parityOf_0 rfl 2 rfl ?_
  refine J_iconst hX (1 : Int32) dX3_parityOf_1 ic_1 ?_
  refine J_icmp_ge hX 7 dX3_parityOf_2 (by decide) h (fun c h => ?_) (fun c h => ?_)
  · refine J_iconst hX (0 : Int32) dX3_parityOf_5 ic_0 ?_
    exact J_ireturn hX dX3_parityOf_6 h hF rfl
  · refine J_aload_n hX dX3_parityOf_7 rfl 0 rfl ?_
    refine J_iconst hX (0 : Int32) dX3_parityOf_8 ic_0 ?_
    refine J_putI hX dX3_parityOf_9 pl_RX3_22 (ltn (lt_isLw_0 ha) hn) (lo_isLw_0 ha) rfl rfl rfl h (fun m1 h => ?_)
    refine J_iconst hX (0 : Int32) dX3_parityOf_12 ic_0 ?_
    refine J_istore hX [(5, .int (0 : Int32)), (0, .ref a), (1, .int x1), (2, .int x2), (3, .int x3), (4, .int x4)] dX3_parityOf_13 (by decide) rfl ?_
    refine J_sub [(0, .ref a), (1, .int x1), (2, .int x2), (3, .int x3), (4, .int x4), (5, .int (0 : Int32))] [1, 2, 3, 4, 5, 0] rfl ?_
    exact t_X3_parityOf_L15 hX hd0 hn ha hF FU x1 x2 x3 x4 (0 : Int32)  m1 h
theorem c_X3_parityOf {G : GG} {l : Launch} {ρ : Nat → Nat} {n t u w v : Nat} {x : Option Nat} (hn : 126 ≤ n) {a : Nat} (ha : isLw a) {x1 : Int32} {x2 : Int32} {x3 : Int32} {x4 : Int32} {m : Mm} {rE : Int32} {mE : Mm} (h : f_X3_parityOf a x1 x2 x3 x4 m = some (rE, mE)) : CT G l yX3_parityOf cX3_parityOf 6 (some .int) 2 0 0 ρ n (RT t u w v x) [.ref a, .int x1, .int x2, .int x3, .int x4] m (some (.int rE)) (RT t u w v x) mE := ct_of_J (by decide) rfl (Nat.le_of_ble_eq_true rfl) (fun X hX e1 e2 e3 e4 hQ hr hl => t_X3_parityOf hX (Nat.le_refl _) hn ha ⟨by rw [hQ, e3, e4], hr, hl⟩ h)
theorem t_X4_numberData_L2 {X : XX} {G : GG} {ρ : Nat → Nat} {n t u w v : Nat} {x : Option Nat} {d : Nat} {a : Nat} (hX : Ok X G ρ cX4_numberData 4 RX4 d) (hd0 : 0 ≤ d) (hn : 126 ≤ n) (ha : isLa a) {mE : Mm} (hF : Fin' X G ρ n none none (RT t u w v x) mE) : ∀ (k : Nat) (v1 : Int32) (v2 : Int32) (m : Mm), f_X4_numberData_L2 a k v1 v2 m = some mE → J X G ρ n 4 2 [(0, .ref a), (1, .int v1), (2, .int v2)] [] (RT t u w v x) m := by
  intro k
  induction k with
  | zero => intro _ _ _ h; rw [f_X4_numberData_L2] at h; cases h
  | succ k ih =>
    intro v1 v2 m h
    rw [f_X4_numberData_L2] at h
    refine J_iload_n hX dX4_numberData_2 rfl 2 rfl ?_
    refine J_aload_n hX dX4_numberData_3 rfl 0 rfl ?_
    refine J_getR hX dX4_numberData_4 fl_RX4_9 (ltn (lt_isLa_0 ha) hn) (lo_isLa_0 ha) rfl (rt_isLa_0_3 _ _ _ _ _ ha) ?_
    refine J_iload_n hX dX4_numberData_7 rfl 1 rfl ?_
    refine J_iaload hX dX4_numberData_8 (ltn (lt_isLa_1 ha) hn) (lay_isLa_1 ha) h (fun h => ?_)
    refine J_icmp_ge hX 71 dX4_numberData_9 (by decide) h (fun c h => ?_) (fun c h => ?_)
    · refine J_iload_n hX dX4_numberData_12 rfl 1 rfl ?_
      refine J_iconst hX (5 : Int32) dX4_numberData_13 ic_5 ?_
      refine J_imul hX dX4_numberData_14 ?_
      refine J_iload_n hX dX4_numberData_15 rfl 2 rfl ?_
      refine J_iadd hX dX4_numberData_16 ?_
      refine J_istore_n hX [(3, .int ((v1 * (5 : Int32)) + v2)), (0, .ref a), (1, .int v1), (2, .int v2)] dX4_numberData_17 rfl (by decide) rfl ?_
      refine J_aload_n hX dX4_numberData_18 rfl 1 rfl ?_
      refine J_getR hX dX4_numberData_19 fl_RX4_36 (ltn (lt_isLa_0 ha) hn) (lo_isLa_0 ha) rfl (rt_isLa_0_11 _ _ _ _ _ ha) ?_
      refine J_iload_n hX dX4_numberData_22 rfl 0 rfl ?_
      refine J_iconst hX (-1 : Int32) dX4_numberData_23 ic_m1 ?_
      refine J_iastore hX dX4_numberData_24 (ltn (lt_isLa_9 ha) hn) (lay_isLa_9 ha) h (fun m1 h => ?_)
      refine J_iload_n hX dX4_numberData_25 rfl 3 rfl ?_
      refine J_aload_n hX dX4_numberData_26 rfl 1 rfl ?_
      refine J_getR hX dX4_numberData_27 fl_RX4_15 (ltn (lt_isLa_0 ha) hn) (lo_isLa_0 ha) rfl (rt_isLa_0_4 _ _ _ _ _ ha) ?_
      refine J_iload_n hX dX4_numberData_30 rfl 2 rfl ?_
      refine J_iaload hX dX4_numberData_31 (ltn (lt_isLa_2 ha) hn) (lay_isLa_2 ha) h (fun h => ?_)
      refine J_icmp_eq hX 65 dX4_numberData_32 (by decide) h (fun c h => ?_) (fun c h => ?_)
      · refine J_iinc hX (v2 + (1 : Int32)) [(2, .int (v2 + (1 : Int32))), (3, .int ((v1 * (5 : Int32)) + v2)), (0, .ref a), (1, .int v1)] dX4_numberData_65 3 rfl (congrArg (fun z => v2 + z) ic_1) (by decide) rfl ?_
        refine J_goto hX 2 dX4_numberData_68 (by decide) ?_
        refine J_sub [(0, .ref a), (1, .int v1), (2, .int (v2 + (1 : Int32)))] [2, 3, 0] rfl ?_
        exact ih v1 (v2 + (1 : Int32)) m1 h
      · refine J_aload_n hX dX4_numberData_35 rfl 1 rfl ?_
        refine J_getR hX dX4_numberData_36 fl_RX4_36 (ltn (lt_isLa_0 ha) hn) (lo_isLa_0 ha) rfl (rt_isLa_0_11 _ _ _ _ _ ha) ?_
        refine J_iload_n hX dX4_numberData_39 rfl 0 rfl ?_
        refine J_aload_n hX dX4_numberData_40 rfl 1 rfl ?_
        refine J_getI hX dX4_numberData_41 fl_RX4_81 (ltn (lt_isLa_0 ha) hn) (lo_isLa_0 ha) rfl ?_
        refine J_iastore hX dX4_numberData_44 (ltn (lt_isLa_9 ha) hn) (lay_isLa_9 ha) h (fun m2 h => ?_)
        refine J_aload_n hX dX4_numberData_45 rfl 1 rfl ?_
        refine J_getR hX dX4_numberData_46 fl_RX4_39 (ltn (lt_isLa_0 ha) hn) (lo_isLa_0 ha) rfl (rt_isLa_0_12 _ _ _ _ _ ha) ?_
        refine J_aload_n hX dX4_numberData_49 rfl 1 rfl ?_
        refine J_getI hX dX4_numberData_50 fl_RX4_81 (ltn (lt_isLa_0 ha) hn) (lo_isLa_0 ha) rfl ?_
        refine J_iload_n hX dX4_numberData_53 rfl 0 rfl ?_
        refine J_iastore hX dX4_numberData_54 (ltn (lt_isLa_10 ha) hn) (lay_isLa_10 ha) h (fun m3 h => ?_)
        refine J_aload_n hX dX4_numberData_55 rfl 1 rfl ?_
        refine J_dup hX dX4_numberData_56 rfl ?_
        refine J_getI hX dX4_numberData_57 fl_RX4_81 (ltn (lt_isLa_0 ha) hn) (lo_isLa_0 ha) rfl ?_
        refine J_iconst hX (1 : Int32) dX4_numberData_60 ic_1 ?_
        refine J_iadd hX dX4_numberData_61 ?_
        refine J_putI hX dX4_numberData_62 pl_RX4_81 (ltn (lt_isLa_0 ha) hn) (lo_isLa_0 ha) rfl rfl rfl h (fun m4 h => ?_)
        refine J_iinc hX (v2 + (1 : Int32)) [(2, .int (v2 + (1 : Int32))), (3, .int ((v1 * (5 : Int32)) + v2)), (0, .ref a), (1, .int v1)] dX4_numberData_65 3 rfl (congrArg (fun z => v2 + z) ic_1) (by decide) rfl ?_
        refine J_goto hX 2 dX4_numberData_68 (by decide) ?_
        refine J_sub [(0, .ref a), (1, .int v1), (2, .int (v2 + (1 : Int32)))] [2, 3, 0] rfl ?_
        exact ih v1 (v2 + (1 : Int32)) m4 h
    · exact J_return hX dX4_numberData_71 h hF
theorem t_X4_numberData {X : XX} {G : GG} {ρ : Nat → Nat} {n t u w v : Nat} {x : Option Nat} {d : Nat} {a : Nat} (hX : Ok X G ρ cX4_numberData 4 RX4 d) (hd0 : 0 ≤ d) (hn : 126 ≤ n) (ha : isLa a) {mE : Mm} (hF : Fin' X G ρ n none none (RT t u w v x) mE) {x1 : Int32} {m : Mm} (h : f_X4_numberData a x1 m = some mE) : J X G ρ n 4 0 [(0, .ref a), (1, .int x1)] [] (RT t u w v x) m := by
  unfold f_X4_numberData at h
  refine J_iconst hX (0 : Int32) dX4_numberData_0 ic_0 ?_
  refine J_istore_n hX [(2, .int (0 : Int32)), (0, .ref a), (1, .int x1)] dX4_numberData_1 rfl (by decide) rfl ?_
  refine J_sub [(0, .ref a), (1, .int x1), (2, .int (0 : Int32))] [1, 2, 0] rfl ?_
  exact t_X4_numberData_L2 hX hd0 hn ha hF FU x1 (0 : Int32)  m h
theorem c_X4_numberData {G : GG} {l : Launch} {ρ : Nat → Nat} {n t u w v : Nat} {x : Option Nat} (hn : 126 ≤ n) {a : Nat} (ha : isLa a) {x1 : Int32} {m : Mm} {mE : Mm} (h : f_X4_numberData a x1 m = some mE) : CT G l yX4_numberData cX4_numberData 4 none 0 0 0 ρ n (RT t u w v x) [.ref a, .int x1] m none (RT t u w v x) mE := ct_of_J (by decide) rfl (Nat.le_of_ble_eq_true rfl) (fun X hX e1 e2 e3 e4 hQ hr hl => t_X4_numberData hX (Nat.le_refl _) hn ha ⟨by rw [hQ, e3, e4], hr, hl⟩ h)
theorem t_X4_clear_L17 {X : XX} {G : GG} {ρ : Nat → Nat} {n t u w v : Nat} {x : Option Nat} {d : Nat} {a : Nat} (hX : Ok X G ρ cX4_clear 3 RX4 d) (hd0 : 0 ≤ d) (hn : 126 ≤ n) (ha : isLa a) {mE : Mm} (hF : Fin' X G ρ n none none (RT t u w v x) mE) : ∀ (k : Nat) (v2 : Int32) (m : Mm), f_X4_clear_L17 a k v2 m = some mE → J X G ρ n 3 17 [(0, .ref a), (2, .int v2)] [] (RT t u w v x) m := by
  intro k
  induction k with
  | zero => intro _ _ h; rw [f_X4_clear_L17] at h; cases h
  | succ k ih =>
    intro v2 m h
    rw [f_X4_clear_L17] at h
    refine J_iload_n hX dX4_clear_17 rfl 1 rfl ?_
    refine J_bipush hX (13 : Int32) dX4_clear_18 (by decide) ?_
    refine J_icmp_ge hX 50 dX4_clear_20 (by decide) h (fun c h => ?_) (fun c h => ?_)
    · refine J_aload_n hX dX4_clear_23 rfl 0 rfl ?_
      refine J_getR hX dX4_clear_24 fl_RX4_42 (ltn (lt_isLa_0 ha) hn) (lo_isLa_0 ha) rfl (rt_isLa_0_13 _ _ _ _ _ ha) ?_
      refine J_iload_n hX dX4_clear_27 rfl 1 rfl ?_
      refine J_iconst hX (0 : Int32) dX4_clear_28 ic_0 ?_
      refine J_iastore hX dX4_clear_29 (ltn (lt_isLa_11 ha) hn) (lay_isLa_11 ha) h (fun m4 h => ?_)
      refine J_aload_n hX dX4_clear_30 rfl 0 rfl ?_
      refine J_getR hX dX4_clear_31 fl_RX4_45 (ltn (lt_isLa_0 ha) hn) (lo_isLa_0 ha) rfl (rt_isLa_0_14 _ _ _ _ _ ha) ?_
      refine J_iload_n hX dX4_clear_34 rfl 1 rfl ?_
      refine J_iconst hX (0 : Int32) dX4_clear_35 ic_0 ?_
      refine J_iastore hX dX4_clear_36 (ltn (lt_isLa_12 ha) hn) (lay_isLa_12 ha) h (fun m5 h => ?_)
      refine J_aload_n hX dX4_clear_37 rfl 0 rfl ?_
      refine J_getR hX dX4_clear_38 fl_RX4_48 (ltn (lt_isLa_0 ha) hn) (lo_isLa_0 ha) rfl (rt_isLa_0_15 _ _ _ _ _ ha) ?_
      refine J_iload_n hX dX4_clear_41 rfl 1 rfl ?_
      refine J_iconst hX (0 : Int32) dX4_clear_42 ic_0 ?_
      refine J_iastore hX dX4_clear_43 (ltn (lt_isLa_13 ha) hn) (lay_isLa_13 ha) h (fun m6 h => ?_)
      refine J_iinc hX (v2 + (1 : Int32)) [(2, .int (v2 + (1 : Int32))), (0, .ref a)] dX4_clear_44 1 rfl (congrArg (fun z => v2 + z) ic_1) (by decide) rfl ?_
      refine J_goto hX 17 dX4_clear_47 (by decide) ?_
      refine J_sub [(0, .ref a), (2, .int (v2 + (1 : Int32)))] [1, 0] rfl ?_
      exact ih (v2 + (1 : Int32)) m6 h
    · exact J_return hX dX4_clear_50 h hF
theorem t_X4_clear {X : XX} {G : GG} {ρ : Nat → Nat} {n t u w v : Nat} {x : Option Nat} {d : Nat} {a : Nat} (hX : Ok X G ρ cX4_clear 3 RX4 d) (hd0 : 0 ≤ d) (hn : 126 ≤ n) (ha : isLa a) {mE : Mm} (hF : Fin' X G ρ n none none (RT t u w v x) mE) {x1 : Int32} {m : Mm} (h : f_X4_clear a x1 m = some mE) : J X G ρ n 3 0 [(0, .ref a), (1, .int x1)] [] (RT t u w v x) m := by
  unfold f_X4_clear at h
  refine J_aload_n hX dX4_clear_0 rfl 0 rfl ?_
  refine J_iload_n hX dX4_clear_1 rfl 1 rfl ?_
  refine J_putI hX dX4_clear_2 pl_RX4_78 (ltn (lt_isLa_0 ha) hn) (lo_isLa_0 ha) rfl rfl rfl h (fun m1 h => ?_)
  refine J_aload_n hX dX4_clear_5 rfl 0 rfl ?_
  refine J_iconst hX (0 : Int32) dX4_clear_6 ic_0 ?_
  refine J_putI hX dX4_clear_7 pl_RX4_72 (ltn (lt_isLa_0 ha) hn) (lo_isLa_0 ha) rfl rfl rfl h (fun m2 h => ?_)
  refine J_aload_n hX dX4_clear_10 rfl 0 rfl ?_
  refine J_iconst hX (0 : Int32) dX4_clear_11 ic_0 ?_
  refine J_putI hX dX4_clear_12 pl_RX4_81 (ltn (lt_isLa_0 ha) hn) (lo_isLa_0 ha) rfl rfl rfl h (fun m3 h => ?_)
  refine J_iconst hX (0 : Int32) dX4_clear_15 ic_0 ?_
  refine J_istore_n hX [(2, .int (0 : Int32)), (0, .ref a), (1, .int x1)] dX4_clear_16 rfl (by decide) rfl ?_
  refine J_sub [(0, .ref a), (2, .int (0 : Int32))] [1, 0] rfl ?_
  exact t_X4_clear_L17 hX hd0 hn ha hF FU (0 : Int32)  m3 h
theorem c_X4_clear {G : GG} {l : Launch} {ρ : Nat → Nat} {n t u w v : Nat} {x : Option Nat} (hn : 126 ≤ n) {a : Nat} (ha : isLa a) {x1 : Int32} {m : Mm} {mE : Mm} (h : f_X4_clear a x1 m = some mE) : CT G l yX4_clear cX4_clear 3 none 0 0 0 ρ n (RT t u w v x) [.ref a, .int x1] m none (RT t u w v x) mE := ct_of_J (by decide) rfl (Nat.le_of_ble_eq_true rfl) (fun X hX e1 e2 e3 e4 hQ hr hl => t_X4_clear hX (Nat.le_refl _) hn ha ⟨by rw [hQ, e3, e4], hr, hl⟩ h)
