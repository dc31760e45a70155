theorem t_X11_reads_J206 {X : XX} {G : GG} {ρ : Nat → Nat} {n t u w v : Nat} {x : Option Nat} {d : Nat} (hX : Ok X G ρ cX11_reads 6 RX11 d) (hd0 : 2 ≤ d) (hn : 126 ≤ n) {rE : Int32} {mE : Mm} (hF : Fin' X G ρ n (some .boolean) (some (.int rE)) (RT t u w v x) mE) {K11 : Int32 → Int32 → Mm → Option (Int32 × Mm)} (v1 : Int32) (hK11 : ∀ (w1 : Int32) (w2 : Int32) (m : Mm), K11 w1 w2 m = some (rE, mE) → J X G ρ n 6 11 [(0, .ref 78), (1, .int w1), (2, .int w2)] [] (RT t u w v x) m) (m : Mm) (h : f_X11_reads_J206 K11 v1 m = some (rE, mE)) : J X G ρ n 6 206 [(0, .ref 78), (1, .int v1)] [] (RT t u w v x) m := by
  unfold f_X11_reads_J206 at h
  refine J_aload_n hX dX11_reads_206 rfl 0 rfl ?_
  refine J_aload_n hX dX11_reads_207 rfl 0 rfl ?_
  refine J_bipush hX (43 : Int32) dX11_reads_208 (by decide) ?_
  obtain ⟨r5, m4, h0, h⟩ := bd2_some h
  refine J_callVi (As := [.int (43 : Int32)]) (st := [.ref 78]) hX dX11_reads_210 cw_RX11_212 (by omega) (c_X11_isSign hn  h0) (ltn ltc_78 hn) lo_78 (by decide) rfl rfl rfl (Nat.le_of_ble_eq_true rfl) ?_
  clear h0
  refine J_if_eq hX 221 dX11_reads_213 (by decide) h (fun c h => ?_) (fun c h => ?_)
  · refine J_aload_n hX dX11_reads_221 rfl 0 rfl ?_
    refine J_bipush hX (45 : Int32) dX11_reads_222 (by decide) ?_
    obtain ⟨r7, m6, h0, h⟩ := bd2_some h
    refine J_callVi (As := [.int (45 : Int32)]) (st := [.ref 78]) hX dX11_reads_224 cw_RX11_212 (by omega) (c_X11_isSign hn  h0) (ltn ltc_78 hn) lo_78 (by decide) rfl rfl rfl (Nat.le_of_ble_eq_true rfl) ?_
    clear h0
    refine J_if_eq hX 235 dX11_reads_227 (by decide) h (fun c h => ?_) (fun c h => ?_)
    · refine J_bipush hX (22 : Int32) dX11_reads_235 (by decide) ?_
      obtain ⟨m8, h0, h⟩ := bd1_some h
      refine J_callVv (As := [.int (22 : Int32)]) (st := []) hX dX11_reads_237 cw_RX11_219 (by omega) (c_X11_puts hn  h0) (ltn ltc_78 hn) lo_78 (by decide) rfl rfl rfl (Nat.le_of_ble_eq_true rfl) ?_
      clear h0
      refine J_iconst hX (1 : Int32) dX11_reads_240 ic_1 ?_
      refine J_istore_n hX [(2, .int (1 : Int32)), (0, .ref 78), (1, .int v1)] dX11_reads_241 rfl (by decide) rfl ?_
      refine J_goto hX 424 dX11_reads_242 (by decide) ?_
      refine J_aload_n hX dX11_reads_424 rfl 1 rfl ?_
      obtain ⟨m9, h0, h⟩ := bd1_some h
      refine J_callVv (As := []) (st := []) hX dX11_reads_425 cw_RX11_223 (by omega) (c_X11_nextToken hn  h0) (ltn ltc_78 hn) lo_78 (by decide) rfl rfl rfl (Nat.le_of_ble_eq_true rfl) ?_
      clear h0
      refine J_goto hX 11 dX11_reads_428 (by decide) ?_
      refine J_sub [(0, .ref 78), (1, .int v1), (2, .int (1 : Int32))] [1, 2, 0] rfl ?_
      exact hK11 v1 (1 : Int32) m9 h
    · refine J_bipush hX (21 : Int32) dX11_reads_230 (by decide) ?_
      refine J_goto hX 237 dX11_reads_232 (by decide) ?_
      obtain ⟨m10, h0, h⟩ := bd1_some h
      refine J_callVv (As := [.int (21 : Int32)]) (st := []) hX dX11_reads_237 cw_RX11_219 (by omega) (c_X11_puts hn  h0) (ltn ltc_78 hn) lo_78 (by decide) rfl rfl rfl (Nat.le_of_ble_eq_true rfl) ?_
      clear h0
      refine J_iconst hX (1 : Int32) dX11_reads_240 ic_1 ?_
      refine J_istore_n hX [(2, .int (1 : Int32)), (0, .ref 78), (1, .int v1)] dX11_reads_241 rfl (by decide) rfl ?_
      refine J_goto hX 424 dX11_reads_242 (by decide) ?_
      refine J_aload_n hX dX11_reads_424 rfl 1 rfl ?_
      obtain ⟨m11, h0, h⟩ := bd1_some h
      refine J_callVv (As := []) (st := []) hX dX11_reads_425 cw_RX11_223 (by omega) (c_X11_nextToken hn  h0) (ltn ltc_78 hn) lo_78 (by decide) rfl rfl rfl (Nat.le_of_ble_eq_true rfl) ?_
      clear h0
      refine J_goto hX 11 dX11_reads_428 (by decide) ?_
      refine J_sub [(0, .ref 78), (1, .int v1), (2, .int (1 : Int32))] [1, 2, 0] rfl ?_
      exact hK11 v1 (1 : Int32) m11 h
  · refine J_bipush hX (20 : Int32) dX11_reads_216 (by decide) ?_
    refine J_goto hX 237 dX11_reads_218 (by decide) ?_
    obtain ⟨m12, h0, h⟩ := bd1_some h
    refine J_callVv (As := [.int (20 : Int32)]) (st := []) hX dX11_reads_237 cw_RX11_219 (by omega) (c_X11_puts hn  h0) (ltn ltc_78 hn) lo_78 (by decide) rfl rfl rfl (Nat.le_of_ble_eq_true rfl) ?_
    clear h0
    refine J_iconst hX (1 : Int32) dX11_reads_240 ic_1 ?_
    refine J_istore_n hX [(2, .int (1 : Int32)), (0, .ref 78), (1, .int v1)] dX11_reads_241 rfl (by decide) rfl ?_
    refine J_goto hX 424 dX11_reads_242 (by decide) ?_
    refine J_aload_n hX dX11_reads_424 rfl 1 rfl ?_
    obtain ⟨m13, h0, h⟩ := bd1_some h
    refine J_callVv (As := []) (st := []) hX dX11_reads_425 cw_RX11_223 (by omega) (c_X11_nextToken hn  h0) (ltn ltc_78 hn) lo_78 (by decide) rfl rfl rfl (Nat.le_of_ble_eq_true rfl) ?_
    clear h0
    refine J_goto hX 11 dX11_reads_428 (by decide) ?_
    refine J_sub [(0, .ref 78), (1, .int v1), (2, .int (1 : Int32))] [1, 2, 0] rfl ?_
    exact hK11 v1 (1 : Int32) m13 h
theorem t_X11_reads_J342 {X : XX} {G : GG} {ρ : Nat → Nat} {n t u w v : Nat} {x : Option Nat} {d : Nat} (hX : Ok X G ρ cX11_reads 6 RX11 d) (hd0 : 2 ≤ d) (hn : 126 ≤ n) {rE : Int32} {mE : Mm} (hF : Fin' X G ρ n (some .boolean) (some (.int rE)) (RT t u w v x) mE) {K11 : Int32 → Int32 → Mm → Option (Int32 × Mm)} (v1 : Int32) (s0 : Int32) (hK11 : ∀ (w1 : Int32) (w2 : Int32) (m : Mm), K11 w1 w2 m = some (rE, mE) → J X G ρ n 6 11 [(0, .ref 78), (1, .int w1), (2, .int w2)] [] (RT t u w v x) m) (m : Mm) (h : f_X11_reads_J342 K11 v1 s0 m = some (rE, mE)) : J X G ρ n 6 342 [(0, .ref 78), (1, .int v1)] [.int s0, .ref 78] (RT t u w v x) m := by
  unfold f_X11_reads_J342 at h
  obtain ⟨m24, h0, h⟩ := bd1_some h
  refine J_callVv (As := [.int s0]) (st := []) hX dX11_reads_342 cw_RX11_219 (by omega) (c_X11_puts hn  h0) (ltn ltc_78 hn) lo_78 (by decide) rfl rfl rfl (Nat.le_of_ble_eq_true rfl) ?_
  clear h0
  refine J_aload_n hX dX11_reads_345 rfl 0 rfl ?_
  refine J_getR hX dX11_reads_346 fl_RX11_37 (ltn ltc_78 hn) lo_78 rfl (rt_78_20 _ _ _ _ _) ?_
  refine J_iload_n hX dX11_reads_349 rfl 1 rfl ?_
  refine J_iconst hX (0 : Int32) dX11_reads_350 ic_0 ?_
  refine J_bastore hX dX11_reads_351 (ltn ltc_88 hn) lay_88 vz0 h (fun m25 h => ?_)
  refine J_iconst hX (1 : Int32) dX11_reads_352 ic_1 ?_
  refine J_istore_n hX [(2, .int (1 : Int32)), (0, .ref 78), (1, .int v1)] dX11_reads_353 rfl (by decide) rfl ?_
  refine J_goto hX 424 dX11_reads_354 (by decide) ?_
  refine J_aload_n hX dX11_reads_424 rfl 1 rfl ?_
  obtain ⟨m26, h0, h⟩ := bd1_some h
  refine J_callVv (As := []) (st := []) hX dX11_reads_425 cw_RX11_223 (by omega) (c_X11_nextToken hn  h0) (ltn ltc_78 hn) lo_78 (by decide) rfl rfl rfl (Nat.le_of_ble_eq_true rfl) ?_
  clear h0
  refine J_goto hX 11 dX11_reads_428 (by decide) ?_
  refine J_sub [(0, .ref 78), (1, .int v1), (2, .int (1 : Int32))] [1, 2, 0] rfl ?_
  exact hK11 v1 (1 : Int32) m26 h
theorem t_X11_reads_J324 {X : XX} {G : GG} {ρ : Nat → Nat} {n t u w v : Nat} {x : Option Nat} {d : Nat} (hX : Ok X G ρ cX11_reads 6 RX11 d) (hd0 : 2 ≤ d) (hn : 126 ≤ n) {rE : Int32} {mE : Mm} (hF : Fin' X G ρ n (some .boolean) (some (.int rE)) (RT t u w v x) mE) {K11 : Int32 → Int32 → Mm → Option (Int32 × Mm)} (v1 : Int32) (hK11 : ∀ (w1 : Int32) (w2 : Int32) (m : Mm), K11 w1 w2 m = some (rE, mE) → J X G ρ n 6 11 [(0, .ref 78), (1, .int w1), (2, .int w2)] [] (RT t u w v x) m) (m : Mm) (h : f_X11_reads_J324 K11 v1 m = some (rE, mE)) : J X G ρ n 6 324 [(0, .ref 78), (1, .int v1)] [] (RT t u w v x) m := by
  unfold f_X11_reads_J324 at h
  refine J_aload_n hX dX11_reads_324 rfl 0 rfl ?_
  refine J_aload_n hX dX11_reads_325 rfl 0 rfl ?_
  refine J_ldc2 hX (1111 : Int64) dX11_reads_326 k_RX11_226 ?_
  obtain ⟨r23, m22, h0, h⟩ := bd2_some h
  refine J_callVi (As := [.long (1111 : Int64)]) (st := [.ref 78]) hX dX11_reads_329 cw_RX11_208 (by omega) (c_X11_isWord hn  h0) (ltn ltc_78 hn) lo_78 (by decide) rfl rfl rfl (Nat.le_of_ble_eq_true rfl) ?_
  clear h0
  refine J_if_eq hX 340 dX11_reads_332 (by decide) h (fun c h => ?_) (fun c h => ?_)
  · refine J_bipush hX (27 : Int32) dX11_reads_340 (by decide) ?_
    exact t_X11_reads_J342 hX hd0 hn hF v1 (27 : Int32) hK11 m22 h
  · refine J_bipush hX (26 : Int32) dX11_reads_335 (by decide) ?_
    refine J_goto hX 342 dX11_reads_337 (by decide) ?_
    exact t_X11_reads_J342 hX hd0 hn hF v1 (26 : Int32) hK11 m22 h
theorem t_X11_reads_J399 {X : XX} {G : GG} {ρ : Nat → Nat} {n t u w v : Nat} {x : Option Nat} {d : Nat} (hX : Ok X G ρ cX11_reads 6 RX11 d) (hd0 : 2 ≤ d) (hn : 126 ≤ n) {rE : Int32} {mE : Mm} (hF : Fin' X G ρ n (some .boolean) (some (.int rE)) (RT t u w v x) mE) (v1 : Int32) (m : Mm) (h : f_X11_reads_J399 v1 m = some (rE, mE)) : J X G ρ n 6 399 [(0, .ref 78), (1, .int v1)] [] (RT t u w v x) m := by
  unfold f_X11_reads_J399 at h
  refine J_iload_n hX dX11_reads_399 rfl 1 rfl ?_
  refine J_if_ne hX 418 dX11_reads_400 (by decide) h (fun c h => ?_) (fun c h => ?_)
  · refine J_aload_n hX dX11_reads_403 rfl 0 rfl ?_
    refine J_bipush hX (59 : Int32) dX11_reads_404 (by decide) ?_
    obtain ⟨r34, m33, h0, h⟩ := bd2_some h
    refine J_callVi (As := [.int (59 : Int32)]) (st := []) hX dX11_reads_406 cw_RX11_212 (by omega) (c_X11_isSign hn  h0) (ltn ltc_78 hn) lo_78 (by decide) rfl rfl rfl (Nat.le_of_ble_eq_true rfl) ?_
    clear h0
    refine J_if_eq hX 418 dX11_reads_409 (by decide) h (fun c h => ?_) (fun c h => ?_)
    · refine J_aload_n hX dX11_reads_418 rfl 0 rfl ?_
      refine J_iconst hX (1 : Int32) dX11_reads_419 ic_1 ?_
      obtain ⟨r36, m35, h0, h⟩ := bd2_some h
      refine J_callVi (As := [.int (1 : Int32)]) (st := []) hX dX11_reads_420 cw_RX11_216 (by omega) (c_X11_fails hn  h0) (ltn ltc_78 hn) lo_78 (by decide) rfl rfl rfl (Nat.le_of_ble_eq_true rfl) ?_
      clear h0
      obtain ⟨gB, h⟩ := gd_some h
      exact J_ireturn hX dX11_reads_423 h hF (isB_nar gB)
    · refine J_aload_n hX dX11_reads_412 rfl 0 rfl ?_
      obtain ⟨m37, h0, h⟩ := bd1_some h
      refine J_callVv (As := []) (st := []) hX dX11_reads_413 cw_RX11_223 (by omega) (c_X11_nextToken hn  h0) (ltn ltc_78 hn) lo_78 (by decide) rfl rfl rfl (Nat.le_of_ble_eq_true rfl) ?_
      clear h0
      refine J_iconst hX (1 : Int32) dX11_reads_416 ic_1 ?_
      exact J_ireturn hX dX11_reads_417 h hF narrow_b1
  · refine J_aload_n hX dX11_reads_418 rfl 0 rfl ?_
    refine J_iconst hX (1 : Int32) dX11_reads_419 ic_1 ?_
    obtain ⟨r32, m31, h0, h⟩ := bd2_some h
    refine J_callVi (As := [.int (1 : Int32)]) (st := []) hX dX11_reads_420 cw_RX11_216 (by omega) (c_X11_fails hn  h0) (ltn ltc_78 hn) lo_78 (by decide) rfl rfl rfl (Nat.le_of_ble_eq_true rfl) ?_
    clear h0
    obtain ⟨gB, h⟩ := gd_some h
    exact J_ireturn hX dX11_reads_423 h hF (isB_nar gB)
theorem t_X11_reads_L379 {X : XX} {G : GG} {ρ : Nat → Nat} {n t u w v : Nat} {x : Option Nat} {d : Nat} (hX : Ok X G ρ cX11_reads 6 RX11 d) (hd0 : 2 ≤ d) (hn : 126 ≤ n) {rE : Int32} {mE : Mm} (hF : Fin' X G ρ n (some .boolean) (some (.int rE)) (RT t u w v x) mE) {v2 : Int32} {K : Int32 → Mm → Option (Int32 × Mm)} (hK : ∀ (w1 : Int32) (m : Mm), K w1 m = some (rE, mE) → J X G ρ n 6 424 [(0, .ref 78), (1, .int w1), (2, .int v2)] [] (RT t u w v x) m) : ∀ (k : Nat) (v1 : Int32) (m : Mm), f_X11_reads_L379 v2 K k v1 m = some (rE, mE) → J X G ρ n 6 379 [(0, .ref 78), (1, .int v1), (2, .int v2)] [] (RT t u w v x) m := by
  intro k
  induction k with
  | zero => intro _ _ h; rw [f_X11_reads_L379] at h; cases h
  | succ k ih =>
    intro v1 m h
    rw [f_X11_reads_L379] at h
    refine J_iload_n hX dX11_reads_379 rfl 1 rfl ?_
    refine J_if_le hX 424 dX11_reads_380 (by decide) h (fun c h => ?_) (fun c h => ?_)
    · refine J_aload_n hX dX11_reads_383 rfl 0 rfl ?_
      refine J_getR hX dX11_reads_384 fl_RX11_34 (ltn ltc_78 hn) lo_78 rfl (rt_78_19 _ _ _ _ _) ?_
      refine J_iload_n hX dX11_reads_387 rfl 1 rfl ?_
      refine J_iaload hX dX11_reads_388 (ltn ltc_87 hn) lay_87 h (fun h => ?_)
      refine J_iconst hX (1 : Int32) dX11_reads_389 ic_1 ?_
      refine J_icmp_ne hX 424 dX11_reads_390 (by decide) h (fun c h => ?_) (fun c h => ?_)
      · refine J_iinc hX (v1 + (-1 : Int32)) [(1, .int (v1 + (-1 : Int32))), (0, .ref 78), (2, .int v2)] dX11_reads_393 1 rfl (congrArg (fun z => v1 + z) ic_m1) (by decide) rfl ?_
        refine J_goto hX 379 dX11_reads_396 (by decide) ?_
        refine J_sub [(0, .ref 78), (1, .int (v1 + (-1 : Int32))), (2, .int v2)] [1, 0, 2] rfl ?_
        exact ih (v1 + (-1 : Int32)) m h
      · exact hK v1 m h
    · exact hK v1 m h
theorem t_X11_reads_J304 {X : XX} {G : GG} {ρ : Nat → Nat} {n t u w v : Nat} {x : Option Nat} {d : Nat} (hX : Ok X G ρ cX11_reads 6 RX11 d) (hd0 : 2 ≤ d) (hn : 126 ≤ n) {rE : Int32} {mE : Mm} (hF : Fin' X G ρ n (some .boolean) (some (.int rE)) (RT t u w v x) mE) {K11 : Int32 → Int32 → Mm → Option (Int32 × Mm)} (v1 : Int32) (v2 : Int32) (hK11 : ∀ (w1 : Int32) (w2 : Int32) (m : Mm), K11 w1 w2 m = some (rE, mE) → J X G ρ n 6 11 [(0, .ref 78), (1, .int w1), (2, .int w2)] [] (RT t u w v x) m) (m : Mm) (h : f_X11_reads_J304 K11 v1 v2 m = some (rE, mE)) : J X G ρ n 6 304 [(0, .ref 78), (1, .int v1), (2, .int v2)] [] (RT t u w v x) m := by
  unfold f_X11_reads_J304 at h
  refine J_aload_n hX dX11_reads_304 rfl 0 rfl ?_
  refine J_ldc2 hX (1111 : Int64) dX11_reads_305 k_RX11_226 ?_
  obtain ⟨r21, m20, h0, h⟩ := bd2_some h
  refine J_callVi (As := [.long (1111 : Int64)]) (st := []) hX dX11_reads_308 cw_RX11_208 (by omega) (c_X11_isWord hn  h0) (ltn ltc_78 hn) lo_78 (by decide) rfl rfl rfl (Nat.le_of_ble_eq_true rfl) ?_
  clear h0
  refine J_if_ne hX 324 dX11_reads_311 (by decide) h (fun c h => ?_) (fun c h => ?_)
  · refine J_aload_n hX dX11_reads_314 rfl 0 rfl ?_
    refine J_ldc2 hX (423 : Int64) dX11_reads_315 k_RX11_228 ?_
    obtain ⟨r28, m27, h0, h⟩ := bd2_some h
    refine J_callVi (As := [.long (423 : Int64)]) (st := []) hX dX11_reads_318 cw_RX11_208 (by omega) (c_X11_isWord hn  h0) (ltn ltc_78 hn) lo_78 (by decide) rfl rfl rfl (Nat.le_of_ble_eq_true rfl) ?_
    clear h0
    refine J_if_eq hX 357 dX11_reads_321 (by decide) h (fun c h => ?_) (fun c h => ?_)
    · refine J_aload_n hX dX11_reads_357 rfl 0 rfl ?_
      refine J_bipush hX (41 : Int32) dX11_reads_358 (by decide) ?_
      obtain ⟨r30, m29, h0, h⟩ := bd2_some h
      refine J_callVi (As := [.int (41 : Int32)]) (st := []) hX dX11_reads_360 cw_RX11_212 (by omega) (c_X11_isSign hn  h0) (ltn ltc_78 hn) lo_78 (by decide) rfl rfl rfl (Nat.le_of_ble_eq_true rfl) ?_
      clear h0
      refine J_if_eq hX 399 dX11_reads_363 (by decide) h (fun c h => ?_) (fun c h => ?_)
      · refine J_sub [(0, .ref 78), (1, .int v1)] [0, 1] rfl ?_
        exact t_X11_reads_J399 hX hd0 hn hF v1 m29 h
      · refine J_iload_n hX dX11_reads_366 rfl 1 rfl ?_
        refine J_if_le hX 399 dX11_reads_367 (by decide) h (fun c h => ?_) (fun c h => ?_)
        · refine J_aload_n hX dX11_reads_370 rfl 0 rfl ?_
          refine J_bipush hX (29 : Int32) dX11_reads_371 (by decide) ?_
          obtain ⟨m38, h0, h⟩ := bd1_some h
          refine J_callVv (As := [.int (29 : Int32)]) (st := []) hX dX11_reads_373 cw_RX11_219 (by omega) (c_X11_puts hn  h0) (ltn ltc_78 hn) lo_78 (by decide) rfl rfl rfl (Nat.le_of_ble_eq_true rfl) ?_
          clear h0
          refine J_iinc hX (v1 + (-1 : Int32)) [(1, .int (v1 + (-1 : Int32))), (0, .ref 78), (2, .int v2)] dX11_reads_376 1 rfl (congrArg (fun z => v1 + z) ic_m1) (by decide) rfl ?_
          refine J_sub [(0, .ref 78), (1, .int (v1 + (-1 : Int32))), (2, .int v2)] [1, 0, 2] rfl ?_
          refine t_X11_reads_L379 hX hd0 hn hF (fun w39 m40 h => ?_) FU (v1 + (-1 : Int32)) m38 h
          refine J_aload_n hX dX11_reads_424 rfl 0 rfl ?_
          obtain ⟨m41, h0, h⟩ := bd1_some h
          refine J_callVv (As := []) (st := []) hX dX11_reads_425 cw_RX11_223 (by omega) (c_X11_nextToken hn  h0) (ltn ltc_78 hn) lo_78 (by decide) rfl rfl rfl (Nat.le_of_ble_eq_true rfl) ?_
          clear h0
          refine J_goto hX 11 dX11_reads_428 (by decide) ?_
          exact hK11 w39 v2 m41 h
        · refine J_sub [(0, .ref 78), (1, .int v1)] [0, 1] rfl ?_
          exact t_X11_reads_J399 hX hd0 hn hF v1 m29 h
    · refine J_sub [(0, .ref 78), (1, .int v1)] [0, 1] rfl ?_
      exact t_X11_reads_J324 hX hd0 hn hF v1 hK11 m27 h
  · refine J_sub [(0, .ref 78), (1, .int v1)] [0, 1] rfl ?_
    exact t_X11_reads_J324 hX hd0 hn hF v1 hK11 m20 h
theorem t_X11_reads_J289 {X : XX} {G : GG} {ρ : Nat → Nat} {n t u w v : Nat} {x : Option Nat} {d : Nat} (hX : Ok X G ρ cX11_reads 6 RX11 d) (hd0 : 2 ≤ d) (hn : 126 ≤ n) {rE : Int32} {mE : Mm} (hF : Fin' X G ρ n (some .boolean) (some (.int rE)) (RT t u w v x) mE) {K11 : Int32 → Int32 → Mm → Option (Int32 × Mm)} (v1 : Int32) (s0 : Int32) (hK11 : ∀ (w1 : Int32) (w2 : Int32) (m : Mm), K11 w1 w2 m = some (rE, mE) → J X G ρ n 6 11 [(0, .ref 78), (1, .int w1), (2, .int w2)] [] (RT t u w v x) m) (m : Mm) (h : f_X11_reads_J289 K11 v1 s0 m = some (rE, mE)) : J X G ρ n 6 289 [(0, .ref 78), (1, .int v1)] [.int s0, .ref 78] (RT t u w v x) m := by
  unfold f_X11_reads_J289 at h
  obtain ⟨m44, h0, h⟩ := bd1_some h
  refine J_callVv (As := [.int s0]) (st := []) hX dX11_reads_289 cw_RX11_219 (by omega) (c_X11_puts hn  h0) (ltn ltc_78 hn) lo_78 (by decide) rfl rfl rfl (Nat.le_of_ble_eq_true rfl) ?_
  clear h0
  refine J_aload_n hX dX11_reads_292 rfl 0 rfl ?_
  refine J_getR hX dX11_reads_293 fl_RX11_37 (ltn ltc_78 hn) lo_78 rfl (rt_78_20 _ _ _ _ _) ?_
  refine J_iload_n hX dX11_reads_296 rfl 1 rfl ?_
  refine J_iconst hX (1 : Int32) dX11_reads_297 ic_1 ?_
  refine J_bastore hX dX11_reads_298 (ltn ltc_88 hn) lay_88 vz1 h (fun m45 h => ?_)
  refine J_iconst hX (1 : Int32) dX11_reads_299 ic_1 ?_
  refine J_istore_n hX [(2, .int (1 : Int32)), (0, .ref 78), (1, .int v1)] dX11_reads_300 rfl (by decide) rfl ?_
  refine J_goto hX 424 dX11_reads_301 (by decide) ?_
  refine J_aload_n hX dX11_reads_424 rfl 1 rfl ?_
  obtain ⟨m46, h0, h⟩ := bd1_some h
  refine J_callVv (As := []) (st := []) hX dX11_reads_425 cw_RX11_223 (by omega) (c_X11_nextToken hn  h0) (ltn ltc_78 hn) lo_78 (by decide) rfl rfl rfl (Nat.le_of_ble_eq_true rfl) ?_
  clear h0
  refine J_goto hX 11 dX11_reads_428 (by decide) ?_
  refine J_sub [(0, .ref 78), (1, .int v1), (2, .int (1 : Int32))] [1, 2, 0] rfl ?_
  exact hK11 v1 (1 : Int32) m46 h
theorem t_X11_reads_J263 {X : XX} {G : GG} {ρ : Nat → Nat} {n t u w v : Nat} {x : Option Nat} {d : Nat} (hX : Ok X G ρ cX11_reads 6 RX11 d) (hd0 : 2 ≤ d) (hn : 126 ≤ n) {rE : Int32} {mE : Mm} (hF : Fin' X G ρ n (some .boolean) (some (.int rE)) (RT t u w v x) mE) {K11 : Int32 → Int32 → Mm → Option (Int32 × Mm)} (v1 : Int32) (v2 : Int32) (hK11 : ∀ (w1 : Int32) (w2 : Int32) (m : Mm), K11 w1 w2 m = some (rE, mE) → J X G ρ n 6 11 [(0, .ref 78), (1, .int w1), (2, .int w2)] [] (RT t u w v x) m) (m : Mm) (h : f_X11_reads_J263 K11 v1 v2 m = some (rE, mE)) : J X G ρ n 6 263 [(0, .ref 78), (1, .int v1), (2, .int v2)] [] (RT t u w v x) m := by
  unfold f_X11_reads_J263 at h
  refine J_aload_n hX dX11_reads_263 rfl 0 rfl ?_
  refine J_getR hX dX11_reads_264 fl_RX11_37 (ltn ltc_78 hn) lo_78 rfl (rt_78_20 _ _ _ _ _) ?_
  refine J_iload_n hX dX11_reads_267 rfl 1 rfl ?_
  refine J_baload hX dX11_reads_268 (ltn ltc_88 hn) lay_88 h (fun h => ?_)
  refine J_if_ne hX 304 dX11_reads_269 (by decide) h (fun c h => ?_) (fun c h => ?_)
  · refine J_aload_n hX dX11_reads_272 rfl 0 rfl ?_
    refine J_aload_n hX dX11_reads_273 rfl 0 rfl ?_
    refine J_bipush hX (60 : Int32) dX11_reads_274 (by decide) ?_
    obtain ⟨r43, m42, h0, h⟩ := bd2_some h
    refine J_callVi (As := [.int (60 : Int32)]) (st := [.ref 78]) hX dX11_reads_276 cw_RX11_212 (by omega) (c_X11_isSign hn  h0) (ltn ltc_78 hn) lo_78 (by decide) rfl rfl rfl (Nat.le_of_ble_eq_true rfl) ?_
    clear h0
    refine J_if_eq hX 287 dX11_reads_279 (by decide) h (fun c h => ?_) (fun c h => ?_)
    · refine J_bipush hX (25 : Int32) dX11_reads_287 (by decide) ?_
      refine J_sub [(0, .ref 78), (1, .int v1)] [0, 1] rfl ?_
      exact t_X11_reads_J289 hX hd0 hn hF v1 (25 : Int32) hK11 m42 h
    · refine J_bipush hX (24 : Int32) dX11_reads_282 (by decide) ?_
      refine J_goto hX 289 dX11_reads_284 (by decide) ?_
      refine J_sub [(0, .ref 78), (1, .int v1)] [0, 1] rfl ?_
      exact t_X11_reads_J289 hX hd0 hn hF v1 (24 : Int32) hK11 m42 h
  · exact t_X11_reads_J304 hX hd0 hn hF v1 v2 hK11 m h
theorem t_X11_reads_J120 {X : XX} {G : GG} {ρ : Nat → Nat} {n t u w v : Nat} {x : Option Nat} {d : Nat} (hX : Ok X G ρ cX11_reads 6 RX11 d) (hd0 : 2 ≤ d) (hn : 126 ≤ n) {rE : Int32} {mE : Mm} (hF : Fin' X G ρ n (some .boolean) (some (.int rE)) (RT t u w v x) mE) {K11 : Int32 → Int32 → Mm → Option (Int32 × Mm)} (v1 : Int32) (v2 : Int32) (s0 : Int32) (s1 : Int32) (hK11 : ∀ (w1 : Int32) (w2 : Int32) (m : Mm), K11 w1 w2 m = some (rE, mE) → J X G ρ n 6 11 [(0, .ref 78), (1, .int w1), (2, .int w2)] [] (RT t u w v x) m) (m : Mm) (h : f_X11_reads_J120 K11 v1 v2 s0 s1 m = some (rE, mE)) : J X G ρ n 6 120 [(0, .ref 78), (1, .int v1), (2, .int v2)] [.int s0, .int s1, .ref 87] (RT t u w v x) m := by
  unfold f_X11_reads_J120 at h
  refine J_iastore hX dX11_reads_120 (ltn ltc_87 hn) lay_87 h (fun m56 h => ?_)
  refine J_aload_n hX dX11_reads_121 rfl 0 rfl ?_
  refine J_getR hX dX11_reads_122 fl_RX11_37 (ltn ltc_78 hn) lo_78 rfl (rt_78_20 _ _ _ _ _) ?_
  refine J_iload_n hX dX11_reads_125 rfl 1 rfl ?_
  refine J_iconst hX (0 : Int32) dX11_reads_126 ic_0 ?_
  refine J_bastore hX dX11_reads_127 (ltn ltc_88 hn) lay_88 vz0 h (fun m57 h => ?_)
  refine J_goto hX 172 dX11_reads_128 (by decide) ?_
  refine J_aload_n hX dX11_reads_172 rfl 0 rfl ?_
  obtain ⟨m58, h0, h⟩ := bd1_some h
  refine J_callVv (As := []) (st := []) hX dX11_reads_173 cw_RX11_223 (by omega) (c_X11_nextToken hn  h0) (ltn ltc_78 hn) lo_78 (by decide) rfl rfl rfl (Nat.le_of_ble_eq_true rfl) ?_
  clear h0
  refine J_goto hX 11 dX11_reads_176 (by decide) ?_
  exact hK11 v1 v2 m58 h
theorem t_X11_reads_J99 {X : XX} {G : GG} {ρ : Nat → Nat} {n t u w v : Nat} {x : Option Nat} {d : Nat} (hX : Ok X G ρ cX11_reads 6 RX11 d) (hd0 : 2 ≤ d) (hn : 126 ≤ n) {rE : Int32} {mE : Mm} (hF : Fin' X G ρ n (some .boolean) (some (.int rE)) (RT t u w v x) mE) {K11 : Int32 → Int32 → Mm → Option (Int32 × Mm)} (v1 : Int32) (v2 : Int32) (v4 : Int32) (s0 : Int32) (hK11 : ∀ (w1 : Int32) (w2 : Int32) (m : Mm), K11 w1 w2 m = some (rE, mE) → J X G ρ n 6 11 [(0, .ref 78), (1, .int w1), (2, .int w2)] [] (RT t u w v x) m) (m : Mm) (h : f_X11_reads_J99 K11 v1 v2 v4 s0 m = some (rE, mE)) : J X G ρ n 6 99 [(0, .ref 78), (1, .int v1), (2, .int v2), (4, .int v4)] [.int s0, .ref 78] (RT t u w v x) m := by
  unfold f_X11_reads_J99 at h
  obtain ⟨m55, h0, h⟩ := bd1_some h
  refine J_callVv (As := [.int s0]) (st := []) hX dX11_reads_99 cw_RX11_219 (by omega) (c_X11_puts hn  h0) (ltn ltc_78 hn) lo_78 (by decide) rfl rfl rfl (Nat.le_of_ble_eq_true rfl) ?_
  clear h0
  refine J_iinc hX (v1 + (1 : Int32)) [(1, .int (v1 + (1 : Int32))), (0, .ref 78), (2, .int v2), (4, .int v4)] dX11_reads_102 1 rfl (congrArg (fun z => v1 + z) ic_1) (by decide) rfl ?_
  refine J_aload_n hX dX11_reads_105 rfl 1 rfl ?_
  refine J_getR hX dX11_reads_106 fl_RX11_34 (ltn ltc_78 hn) lo_78 rfl (rt_78_19 _ _ _ _ _) ?_
  refine J_iload_n hX dX11_reads_109 rfl 0 rfl ?_
  refine J_iload hX dX11_reads_110 3 rfl ?_
  refine J_if_eq hX 119 dX11_reads_112 (by decide) h (fun c h => ?_) (fun c h => ?_)
  · refine J_iconst hX (2 : Int32) dX11_reads_119 ic_2 ?_
    refine J_sub [(0, .ref 78), (1, .int (v1 + (1 : Int32))), (2, .int v2)] [1, 0, 2] rfl ?_
    exact t_X11_reads_J120 hX hd0 hn hF (v1 + (1 : Int32)) v2 (2 : Int32) (v1 + (1 : Int32)) hK11 m55 h
  · refine J_iconst hX (1 : Int32) dX11_reads_115 ic_1 ?_
    refine J_goto hX 120 dX11_reads_116 (by decide) ?_
    refine J_sub [(0, .ref 78), (1, .int (v1 + (1 : Int32))), (2, .int v2)] [1, 0, 2] rfl ?_
    exact t_X11_reads_J120 hX hd0 hn hF (v1 + (1 : Int32)) v2 (1 : Int32) (v1 + (1 : Int32)) hK11 m55 h
theorem t_X11_reads_J86 {X : XX} {G : GG} {ρ : Nat → Nat} {n t u w v : Nat} {x : Option Nat} {d : Nat} (hX : Ok X G ρ cX11_reads 6 RX11 d) (hd0 : 2 ≤ d) (hn : 126 ≤ n) {rE : Int32} {mE : Mm} (hF : Fin' X G ρ n (some .boolean) (some (.int rE)) (RT t u w v x) mE) {K11 : Int32 → Int32 → Mm → Option (Int32 × Mm)} (v1 : Int32) (v2 : Int32) (v4 : Int32) (hK11 : ∀ (w1 : Int32) (w2 : Int32) (m : Mm), K11 w1 w2 m = some (rE, mE) → J X G ρ n 6 11 [(0, .ref 78), (1, .int w1), (2, .int w2)] [] (RT t u w v x) m) (m : Mm) (h : f_X11_reads_J86 K11 v1 v2 v4 m = some (rE, mE)) : J X G ρ n 6 86 [(0, .ref 78), (1, .int v1), (2, .int v2), (4, .int v4)] [] (RT t u w v x) m := by
  unfold f_X11_reads_J86 at h
  refine J_aload_n hX dX11_reads_86 rfl 0 rfl ?_
  refine J_iload hX dX11_reads_87 3 rfl ?_
  refine J_if_eq hX 97 dX11_reads_89 (by decide) h (fun c h => ?_) (fun c h => ?_)
  · refine J_bipush hX (28 : Int32) dX11_reads_97 (by decide) ?_
    exact t_X11_reads_J99 hX hd0 hn hF v1 v2 v4 (28 : Int32) hK11 m h
  · refine J_bipush hX (30 : Int32) dX11_reads_92 (by decide) ?_
    refine J_goto hX 99 dX11_reads_94 (by decide) ?_
    exact t_X11_reads_J99 hX hd0 hn hF v1 v2 v4 (30 : Int32) hK11 m h
theorem t_X11_reads_L152 {X : XX} {G : GG} {ρ : Nat → Nat} {n t u w v : Nat} {x : Option Nat} {d : Nat} (hX : Ok X G ρ cX11_reads 6 RX11 d) (hd0 : 2 ≤ d) (hn : 126 ≤ n) {rE : Int32} {mE : Mm} (hF : Fin' X G ρ n (some .boolean) (some (.int rE)) (RT t u w v x) mE) {v2 : Int32} {K : Int32 → Mm → Option (Int32 × Mm)} (hK : ∀ (w1 : Int32) (m : Mm), K w1 m = some (rE, mE) → J X G ρ n 6 172 [(0, .ref 78), (1, .int w1), (2, .int v2)] [] (RT t u w v x) m) : ∀ (k : Nat) (v1 : Int32) (m : Mm), f_X11_reads_L152 v2 K k v1 m = some (rE, mE) → J X G ρ n 6 152 [(0, .ref 78), (1, .int v1), (2, .int v2)] [] (RT t u w v x) m := by
  intro k
  induction k with
  | zero => intro _ _ h; rw [f_X11_reads_L152] at h; cases h
  | succ k ih =>
    intro v1 m h
    rw [f_X11_reads_L152] at h
    refine J_iload_n hX dX11_reads_152 rfl 1 rfl ?_
    refine J_if_le hX 172 dX11_reads_153 (by decide) h (fun c h => ?_) (fun c h => ?_)
    · refine J_aload_n hX dX11_reads_156 rfl 0 rfl ?_
      refine J_getR hX dX11_reads_157 fl_RX11_34 (ltn ltc_78 hn) lo_78 rfl (rt_78_19 _ _ _ _ _) ?_
      refine J_iload_n hX dX11_reads_160 rfl 1 rfl ?_
      refine J_iaload hX dX11_reads_161 (ltn ltc_87 hn) lay_87 h (fun h => ?_)
      refine J_iconst hX (1 : Int32) dX11_reads_162 ic_1 ?_
      refine J_icmp_ne hX 172 dX11_reads_163 (by decide) h (fun c h => ?_) (fun c h => ?_)
      · refine J_iinc hX (v1 + (-1 : Int32)) [(1, .int (v1 + (-1 : Int32))), (0, .ref 78), (2, .int v2)] dX11_reads_166 1 rfl (congrArg (fun z => v1 + z) ic_m1) (by decide) rfl ?_
        refine J_goto hX 152 dX11_reads_169 (by decide) ?_
        refine J_sub [(0, .ref 78), (1, .int (v1 + (-1 : Int32))), (2, .int v2)] [1, 0, 2] rfl ?_
        exact ih (v1 + (-1 : Int32)) m h
      · exact hK v1 m h
    · exact hK v1 m h
theorem t_X11_reads_J147 {X : XX} {G : GG} {ρ : Nat → Nat} {n t u w v : Nat} {x : Option Nat} {d : Nat} (hX : Ok X G ρ cX11_reads 6 RX11 d) (hd0 : 2 ≤ d) (hn : 126 ≤ n) {rE : Int32} {mE : Mm} (hF : Fin' X G ρ n (some .boolean) (some (.int rE)) (RT t u w v x) mE) {K11 : Int32 → Int32 → Mm → Option (Int32 × Mm)} (v1 : Int32) (s0 : Int32) (hK11 : ∀ (w1 : Int32) (w2 : Int32) (m : Mm), K11 w1 w2 m = some (rE, mE) → J X G ρ n 6 11 [(0, .ref 78), (1, .int w1), (2, .int w2)] [] (RT t u w v x) m) (m : Mm) (h : f_X11_reads_J147 K11 v1 s0 m = some (rE, mE)) : J X G ρ n 6 147 [(0, .ref 78), (1, .int v1)] [.int s0, .ref 78] (RT t u w v x) m := by
  unfold f_X11_reads_J147 at h
  obtain ⟨m59, h0, h⟩ := bd1_some h
  refine J_callVv (As := [.int s0]) (st := []) hX dX11_reads_147 cw_RX11_219 (by omega) (c_X11_puts hn  h0) (ltn ltc_78 hn) lo_78 (by decide) rfl rfl rfl (Nat.le_of_ble_eq_true rfl) ?_
  clear h0
  refine J_iconst hX (0 : Int32) dX11_reads_150 ic_0 ?_
  refine J_istore_n hX [(2, .int (0 : Int32)), (0, .ref 78), (1, .int v1)] dX11_reads_151 rfl (by decide) rfl ?_
  refine J_sub [(0, .ref 78), (1, .int v1), (2, .int (0 : Int32))] [1, 2, 0] rfl ?_
  refine t_X11_reads_L152 hX hd0 hn hF (fun w60 m61 h => ?_) FU v1 m59 h
  refine J_aload_n hX dX11_reads_172 rfl 0 rfl ?_
  obtain ⟨m62, h0, h⟩ := bd1_some h
  refine J_callVv (As := []) (st := []) hX dX11_reads_173 cw_RX11_223 (by omega) (c_X11_nextToken hn  h0) (ltn ltc_78 hn) lo_78 (by decide) rfl rfl rfl (Nat.le_of_ble_eq_true rfl) ?_
  clear h0
  refine J_goto hX 11 dX11_reads_176 (by decide) ?_
  exact hK11 w60 (0 : Int32) m62 h
theorem t_X11_reads_J65 {X : XX} {G : GG} {ρ : Nat → Nat} {n t u w v : Nat} {x : Option Nat} {d : Nat} (hX : Ok X G ρ cX11_reads 6 RX11 d) (hd0 : 2 ≤ d) (hn : 126 ≤ n) {rE : Int32} {mE : Mm} (hF : Fin' X G ρ n (some .boolean) (some (.int rE)) (RT t u w v x) mE) {K11 : Int32 → Int32 → Mm → Option (Int32 × Mm)} (v1 : Int32) (v2 : Int32) (v3 : Int32) (v4 : Int32) (v5 : Int32) (hK11 : ∀ (w1 : Int32) (w2 : Int32) (m : Mm), K11 w1 w2 m = some (rE, mE) → J X G ρ n 6 11 [(0, .ref 78), (1, .int w1), (2, .int w2)] [] (RT t u w v x) m) (m : Mm) (h : f_X11_reads_J65 K11 v1 v2 v3 v4 v5 m = some (rE, mE)) : J X G ρ n 6 65 [(0, .ref 78), (1, .int v1), (2, .int v2), (3, .int v3), (4, .int v4), (5, .int v5)] [] (RT t u w v x) m := by
  unfold f_X11_reads_J65 at h
  refine J_iload_n hX dX11_reads_65 rfl 1 rfl ?_
  refine J_iconst hX (5 : Int32) dX11_reads_66 ic_5 ?_
  refine J_icmp_ne hX 76 dX11_reads_67 (by decide) h (fun c h => ?_) (fun c h => ?_)
  · refine J_aload_n hX dX11_reads_70 rfl 0 rfl ?_
    refine J_iconst hX (5 : Int32) dX11_reads_71 ic_5 ?_
    obtain ⟨r64, m63, h0, h⟩ := bd2_some h
    refine J_callVi (As := [.int (5 : Int32)]) (st := []) hX dX11_reads_72 cw_RX11_216 (by omega) (c_X11_fails hn  h0) (ltn ltc_78 hn) lo_78 (by decide) rfl rfl rfl (Nat.le_of_ble_eq_true rfl) ?_
    clear h0
    obtain ⟨gB, h⟩ := gd_some h
    exact J_ireturn hX dX11_reads_75 h hF (isB_nar gB)
  · refine J_iload hX dX11_reads_76 4 rfl ?_
    refine J_if_ne hX 86 dX11_reads_78 (by decide) h (fun c h => ?_) (fun c h => ?_)
    · refine J_iload hX dX11_reads_81 5 rfl ?_
      refine J_if_eq hX 131 dX11_reads_83 (by decide) h (fun c h => ?_) (fun c h => ?_)
      · refine J_aload_n hX dX11_reads_131 rfl 0 rfl ?_
        refine J_iload_n hX dX11_reads_132 rfl 3 rfl ?_
        refine J_if_le hX 140 dX11_reads_133 (by decide) h (fun c h => ?_) (fun c h => ?_)
        · refine J_iload_n hX dX11_reads_136 rfl 3 rfl ?_
          refine J_goto hX 147 dX11_reads_137 (by decide) ?_
          refine J_sub [(0, .ref 78), (1, .int v1)] [0, 1] rfl ?_
          exact t_X11_reads_J147 hX hd0 hn hF v1 v3 hK11 m h
        · refine J_bipush hX (100 : Int32) dX11_reads_140 (by decide) ?_
          refine J_aload_n hX dX11_reads_142 rfl 0 rfl ?_
          refine J_getI hX dX11_reads_143 fl_RX11_174 (ltn ltc_78 hn) lo_78 rfl ?_
          refine J_iadd hX dX11_reads_146 ?_
          refine J_sub [(0, .ref 78), (1, .int v1)] [0, 1] rfl ?_
          exact t_X11_reads_J147 hX hd0 hn hF v1 ((100 : Int32) + (gI m 78 8)) hK11 m h
      · refine J_sub [(0, .ref 78), (1, .int v1), (2, .int v2), (4, .int v4)] [0, 1, 2, 4] rfl ?_
        exact t_X11_reads_J86 hX hd0 hn hF v1 v2 v4 hK11 m h
    · refine J_sub [(0, .ref 78), (1, .int v1), (2, .int v2), (4, .int v4)] [0, 1, 2, 4] rfl ?_
      exact t_X11_reads_J86 hX hd0 hn hF v1 v2 v4 hK11 m h
theorem t_X11_reads_L11 {X : XX} {G : GG} {ρ : Nat → Nat} {n t u w v : Nat} {x : Option Nat} {d : Nat} (hX : Ok X G ρ cX11_reads 6 RX11 d) (hd0 : 2 ≤ d) (hn : 126 ≤ n) {rE : Int32} {mE : Mm} (hF : Fin' X G ρ n (some .boolean) (some (.int rE)) (RT t u w v x) mE) : ∀ (k : Nat) (v1 : Int32) (v2 : Int32) (m : Mm), f_X11_reads_L11 k v1 v2 m = some (rE, mE) → J X G ρ n 6 11 [(0, .ref 78), (1, .int v1), (2, .int v2)] [] (RT t u w v x) m := by
  intro k
  induction k with
  | zero => intro _ _ _ h; rw [f_X11_reads_L11] at h; cases h
  | succ k ih =>
    intro v1 v2 m h
    rw [f_X11_reads_L11] at h
    refine J_iload_n hX dX11_reads_11 rfl 2 rfl ?_
    refine J_if_eq hX 179 dX11_reads_12 (by decide) h (fun c h => ?_) (fun c h => ?_)
    · refine J_aload_n hX dX11_reads_179 rfl 0 rfl ?_
      refine J_bipush hX (43 : Int32) dX11_reads_180 (by decide) ?_
      obtain ⟨r3, m2, h0, h⟩ := bd2_some h
      refine J_callVi (As := [.int (43 : Int32)]) (st := []) hX dX11_reads_182 cw_RX11_212 (by omega) (c_X11_isSign hn  h0) (ltn ltc_78 hn) lo_78 (by decide) rfl rfl rfl (Nat.le_of_ble_eq_true rfl) ?_
      clear h0
      refine J_if_ne hX 206 dX11_reads_185 (by decide) h (fun c h => ?_) (fun c h => ?_)
      · refine J_aload_n hX dX11_reads_188 rfl 0 rfl ?_
        refine J_bipush hX (45 : Int32) dX11_reads_189 (by decide) ?_
        obtain ⟨r15, m14, h0, h⟩ := bd2_some h
        refine J_callVi (As := [.int (45 : Int32)]) (st := []) hX dX11_reads_191 cw_RX11_212 (by omega) (c_X11_isSign hn  h0) (ltn ltc_78 hn) lo_78 (by decide) rfl rfl rfl (Nat.le_of_ble_eq_true rfl) ?_
        clear h0
        refine J_if_ne hX 206 dX11_reads_194 (by decide) h (fun c h => ?_) (fun c h => ?_)
        · refine J_aload_n hX dX11_reads_197 rfl 0 rfl ?_
          refine J_bipush hX (42 : Int32) dX11_reads_198 (by decide) ?_
          obtain ⟨r17, m16, h0, h⟩ := bd2_some h
          refine J_callVi (As := [.int (42 : Int32)]) (st := []) hX dX11_reads_200 cw_RX11_212 (by omega) (c_X11_isSign hn  h0) (ltn ltc_78 hn) lo_78 (by decide) rfl rfl rfl (Nat.le_of_ble_eq_true rfl) ?_
          clear h0
          refine J_if_eq hX 245 dX11_reads_203 (by decide) h (fun c h => ?_) (fun c h => ?_)
          · refine J_aload_n hX dX11_reads_245 rfl 0 rfl ?_
            refine J_bipush hX (60 : Int32) dX11_reads_246 (by decide) ?_
            obtain ⟨r19, m18, h0, h⟩ := bd2_some h
            refine J_callVi (As := [.int (60 : Int32)]) (st := []) hX dX11_reads_248 cw_RX11_212 (by omega) (c_X11_isSign hn  h0) (ltn ltc_78 hn) lo_78 (by decide) rfl rfl rfl (Nat.le_of_ble_eq_true rfl) ?_
            clear h0
            refine J_if_ne hX 263 dX11_reads_251 (by decide) h (fun c h => ?_) (fun c h => ?_)
            · refine J_aload_n hX dX11_reads_254 rfl 0 rfl ?_
              refine J_bipush hX (61 : Int32) dX11_reads_255 (by decide) ?_
              obtain ⟨r48, m47, h0, h⟩ := bd2_some h
              refine J_callVi (As := [.int (61 : Int32)]) (st := []) hX dX11_reads_257 cw_RX11_212 (by omega) (c_X11_isSign hn  h0) (ltn ltc_78 hn) lo_78 (by decide) rfl rfl rfl (Nat.le_of_ble_eq_true rfl) ?_
              clear h0
              refine J_if_eq hX 304 dX11_reads_260 (by decide) h (fun c h => ?_) (fun c h => ?_)
              · exact t_X11_reads_J304 hX hd0 hn hF v1 v2 (fun w1 w2 m h => ih w1 w2 m h) m47 h
              · exact t_X11_reads_J263 hX hd0 hn hF v1 v2 (fun w1 w2 m h => ih w1 w2 m h) m47 h
            · exact t_X11_reads_J263 hX hd0 hn hF v1 v2 (fun w1 w2 m h => ih w1 w2 m h) m18 h
          · refine J_sub [(0, .ref 78), (1, .int v1)] [0, 1] rfl ?_
            exact t_X11_reads_J206 hX hd0 hn hF v1 (fun w1 w2 m h => ih w1 w2 m h) m16 h
        · refine J_sub [(0, .ref 78), (1, .int v1)] [0, 1] rfl ?_
          exact t_X11_reads_J206 hX hd0 hn hF v1 (fun w1 w2 m h => ih w1 w2 m h) m14 h
      · refine J_sub [(0, .ref 78), (1, .int v1)] [0, 1] rfl ?_
        exact t_X11_reads_J206 hX hd0 hn hF v1 (fun w1 w2 m h => ih w1 w2 m h) m2 h
    · refine J_aload_n hX dX11_reads_15 rfl 0 rfl ?_
      obtain ⟨r50, m49, h0, h⟩ := bd2_some h
      refine J_callVi (As := []) (st := []) hX dX11_reads_16 cw_RX11_202 (by omega) (c_X11_fact hn  h0) (ltn ltc_78 hn) lo_78 (by decide) rfl rfl rfl (Nat.le_of_ble_eq_true rfl) ?_
      clear h0
      refine J_istore_n hX [(3, .int r50), (0, .ref 78), (1, .int v1), (2, .int v2)] dX11_reads_19 rfl (by decide) rfl ?_
      refine J_aload_n hX dX11_reads_20 rfl 1 rfl ?_
      refine J_ldc2 hX (10631 : Int64) dX11_reads_21 k_RX11_206 ?_
      obtain ⟨r52, m51, h0, h⟩ := bd2_some h
      refine J_callVi (As := [.long (10631 : Int64)]) (st := []) hX dX11_reads_24 cw_RX11_208 (by omega) (c_X11_isWord hn  h0) (ltn ltc_78 hn) lo_78 (by decide) rfl rfl rfl (Nat.le_of_ble_eq_true rfl) ?_
      clear h0
      refine J_istore hX [(4, .int r52), (3, .int r50), (0, .ref 78), (1, .int v1), (2, .int v2)] dX11_reads_27 (by decide) rfl ?_
      refine J_aload_n hX dX11_reads_29 rfl 2 rfl ?_
      refine J_bipush hX (40 : Int32) dX11_reads_30 (by decide) ?_
      obtain ⟨r54, m53, h0, h⟩ := bd2_some h
      refine J_callVi (As := [.int (40 : Int32)]) (st := []) hX dX11_reads_32 cw_RX11_212 (by omega) (c_X11_isSign hn  h0) (ltn ltc_78 hn) lo_78 (by decide) rfl rfl rfl (Nat.le_of_ble_eq_true rfl) ?_
      clear h0
      refine J_istore hX [(5, .int r54), (4, .int r52), (3, .int r50), (0, .ref 78), (1, .int v1), (2, .int v2)] dX11_reads_35 (by decide) rfl ?_
      refine J_iload_n hX dX11_reads_37 rfl 2 rfl ?_
      refine J_if_ne hX 65 dX11_reads_38 (by decide) h (fun c h => ?_) (fun c h => ?_)
      · refine J_iload hX dX11_reads_41 1 rfl ?_
        refine J_if_ne hX 65 dX11_reads_43 (by decide) h (fun c h => ?_) (fun c h => ?_)
        · refine J_iload hX dX11_reads_46 0 rfl ?_
          refine J_if_ne hX 65 dX11_reads_48 (by decide) h (fun c h => ?_) (fun c h => ?_)
          · refine J_aload_n hX dX11_reads_51 rfl 3 rfl ?_
            refine J_getI hX dX11_reads_52 fl_RX11_177 (ltn ltc_78 hn) lo_78 rfl ?_
            refine J_iconst hX (2 : Int32) dX11_reads_55 ic_2 ?_
            refine J_icmp_eq hX 65 dX11_reads_56 (by decide) h (fun c h => ?_) (fun c h => ?_)
            · refine J_sub [(0, .ref 78), (1, .int v1), (2, .int v2), (3, .int r50), (4, .int r52), (5, .int r54)] [3, 4, 5, 2, 1, 0] rfl ?_
              exact t_X11_reads_J65 hX hd0 hn hF v1 v2 r50 r52 r54 (fun w1 w2 m h => ih w1 w2 m h) m53 h
            · refine J_aload_n hX dX11_reads_59 rfl 3 rfl ?_
              refine J_iconst hX (1 : Int32) dX11_reads_60 ic_1 ?_
              obtain ⟨r66, m65, h0, h⟩ := bd2_some h
              refine J_callVi (As := [.int (1 : Int32)]) (st := []) hX dX11_reads_61 cw_RX11_216 (by omega) (c_X11_fails hn  h0) (ltn ltc_78 hn) lo_78 (by decide) rfl rfl rfl (Nat.le_of_ble_eq_true rfl) ?_
              clear h0
              obtain ⟨gB, h⟩ := gd_some h
              exact J_ireturn hX dX11_reads_64 h hF (isB_nar gB)
          · refine J_sub [(0, .ref 78), (1, .int v1), (2, .int v2), (3, .int r50), (4, .int r52), (5, .int r54)] [3, 4, 5, 2, 1, 0] rfl ?_
            exact t_X11_reads_J65 hX hd0 hn hF v1 v2 r50 r52 r54 (fun w1 w2 m h => ih w1 w2 m h) m53 h
        · refine J_sub [(0, .ref 78), (1, .int v1), (2, .int v2), (3, .int r50), (4, .int r52), (5, .int r54)] [3, 4, 5, 2, 1, 0] rfl ?_
          exact t_X11_reads_J65 hX hd0 hn hF v1 v2 r50 r52 r54 (fun w1 w2 m h => ih w1 w2 m h) m53 h
      · refine J_sub [(0, .ref 78), (1, .int v1), (2, .int v2), (3, .int r50), (4, .int r52), (5, .int r54)] [3, 4, 5, 2, 1, 0] rfl ?_
        exact t_X11_reads_J65 hX hd0 hn hF v1 v2 r50 r52 r54 (fun w1 w2 m h => ih w1 w2 m h) m53 h
theorem t_X11_reads {X : XX} {G : GG} {ρ : Nat → Nat} {n t u w v : Nat} {x : Option Nat} {d : Nat} (hX : Ok X G ρ cX11_reads 6 RX11 d) (hd0 : 2 ≤ d) (hn : 126 ≤ n) {rE : Int32} {mE : Mm} (hF : Fin' X G ρ n (some .boolean) (some (.int rE)) (RT t u w v x) mE) {m : Mm} (h : f_X11_reads m = some (rE, mE)) : J X G ρ n 6 0 [(0, .ref 78)] [] (RT t u w v x) m := by
  unfold f_X11_reads at h
  refine J_iconst hX (0 : Int32) dX11_reads_0 ic_0 ?_
  refine J_istore_n hX [(1, .int (0 : Int32)), (0, .ref 78)] dX11_reads_1 rfl (by decide) rfl ?_
  refine J_iconst hX (1 : Int32) dX11_reads_2 ic_1 ?_
  refine J_istore_n hX [(2, .int (1 : Int32)), (1, .int (0 : Int32)), (0, .ref 78)] dX11_reads_3 rfl (by decide) rfl ?_
  refine J_aload_n hX dX11_reads_4 rfl 2 rfl ?_
  refine J_getR hX dX11_reads_5 fl_RX11_37 (ltn ltc_78 hn) lo_78 rfl (rt_78_20 _ _ _ _ _) ?_
  refine J_iconst hX (0 : Int32) dX11_reads_8 ic_0 ?_
  refine J_iconst hX (0 : Int32) dX11_reads_9 ic_0 ?_
  refine J_bastore0 hX dX11_reads_10 (ltn ltc_88 hn) lay_88 (by decide) vz0 h (fun m1 h => ?_)
  refine J_sub [(0, .ref 78), (1, .int (0 : Int32)), (2, .int (1 : Int32))] [2, 1, 0] rfl ?_
  exact t_X11_reads_L11 hX hd0 hn hF FU (0 : Int32) (1 : Int32)  m1 h
theorem c_X11_reads {G : GG} {l : Launch} {ρ : Nat → Nat} {n t u w v : Nat} {x : Option Nat} (hn : 126 ≤ n) {m : Mm} {rE : Int32} {mE : Mm} (h : f_X11_reads m = some (rE, mE)) : CT G l yX11_reads cX11_reads 6 (some .boolean) 2 0 0 ρ n (RT t u w v x) [.ref 78] m (some (.int rE)) (RT t u w v x) mE := ct_of_J (by decide) rfl (Nat.le_of_ble_eq_true rfl) (fun X hX e1 e2 e3 e4 hQ hr hl => t_X11_reads hX (Nat.le_refl _) hn ⟨by rw [hQ, e3, e4], hr, hl⟩ h)
theorem t_X11_isIn {X : XX} {G : GG} {ρ : Nat → Nat} {n t u w v : Nat} {x : Option Nat} {d : Nat} (hX : Ok X G ρ cX11_isIn 2 RX11 d) (hd0 : 0 ≤ d) (hn : 126 ≤ n) {rE : Int32} {mE : Mm} (hF : Fin' X G ρ n (some .boolean) (some (.int rE)) (RT t u w v x) mE) {x0 : Int32} {x1 : Int32} {m : Mm} (h : f_X11_isIn x0 x1 m = some (rE, mE)) : J X G ρ n 2 0 [(0, .int x0), (1, .int x1)] [] (RT t u w v x) m := by
  unfold f_X11_isIn at h
  refine J_iload_n hX dX11_isIn_0 rfl 0 rfl ?_
  refine J_iload_n hX dX11_isIn_1 rfl 1 rfl ?_
  refine J_ishr hX dX11_isIn_2 ?_
  refine J_iconst hX (1 : Int32) dX11_isIn_3 ic_1 ?_
  refine J_iand hX dX11_isIn_4 ?_
  refine J_iconst hX (1 : Int32) dX11_isIn_5 ic_1 ?_
  refine J_icmp_ne hX 13 dX11_isIn_6 (by decide) h (fun c h => ?_) (fun c h => ?_)
  · refine J_iconst hX (1 : Int32) dX11_isIn_9 ic_1 ?_
    refine J_goto hX 14 dX11_isIn_10 (by decide) ?_
    exact J_ireturn hX dX11_isIn_14 h hF narrow_b1
  · refine J_iconst hX (0 : Int32) dX11_isIn_13 ic_0 ?_
    exact J_ireturn hX dX11_isIn_14 h hF narrow_b0
theorem c_X11_isIn {G : GG} {l : Launch} {ρ : Nat → Nat} {n t u w v : Nat} {x : Option Nat} (hn : 126 ≤ n) {x0 : Int32} {x1 : Int32} {m : Mm} {rE : Int32} {mE : Mm} (h : f_X11_isIn x0 x1 m = some (rE, mE)) : CT G l yX11_isIn cX11_isIn 2 (some .boolean) 0 0 0 ρ n (RT t u w v x) [.int x0, .int x1] m (some (.int rE)) (RT t u w v x) mE := ct_of_J (by decide) rfl (Nat.le_of_ble_eq_true rfl) (fun X hX e1 e2 e3 e4 hQ hr hl => t_X11_isIn hX (Nat.le_refl _) hn ⟨by rw [hQ, e3, e4], hr, hl⟩ h)
theorem t_X11_stripesOf {X : XX} {G : GG} {ρ : Nat → Nat} {n t u w v : Nat} {x : Option Nat} {d : Nat} (hX : Ok X G ρ cX11_stripesOf 2 RX11 d) (hd0 : 0 ≤ d) (hn : 126 ≤ n) {rE : Int32} {mE : Mm} (hF : Fin' X G ρ n (some .int) (some (.int rE)) (RT t u w v x) mE) {x0 : Int32} {x1 : Int32} {m : Mm} (h : f_X11_stripesOf x0 x1 m = some (rE, mE)) : J X G ρ n 2 0 [(0, .int x0), (1, .int x1)] [] (RT t u w v x) m := by
  unfold f_X11_stripesOf at h
  refine J_iload_n hX dX11_stripesOf_0 rfl 0 rfl ?_
  refine J_if_ne hX 8 dX11_stripesOf_1 (by decide) h (fun c h => ?_) (fun c h => ?_)
  · refine J_iconst hX (1 : Int32) dX11_stripesOf_4 ic_1 ?_
    refine J_goto hX 18 dX11_stripesOf_5 (by decide) ?_
    exact J_ireturn hX dX11_stripesOf_18 h hF rfl
  · refine J_iload_n hX dX11_stripesOf_8 rfl 0 rfl ?_
    refine J_iconst hX (1 : Int32) dX11_stripesOf_9 ic_1 ?_
    refine J_icmp_ne hX 17 dX11_stripesOf_10 (by decide) h (fun c h => ?_) (fun c h => ?_)
    · refine J_iload_n hX dX11_stripesOf_13 rfl 1 rfl ?_
      refine J_goto hX 18 dX11_stripesOf_14 (by decide) ?_
      exact J_ireturn hX dX11_stripesOf_18 h hF rfl
    · refine J_iconst hX (2 : Int32) dX11_stripesOf_17 ic_2 ?_
      exact J_ireturn hX dX11_stripesOf_18 h hF rfl
theorem c_X11_stripesOf {G : GG} {l : Launch} {ρ : Nat → Nat} {n t u w v : Nat} {x : Option Nat} (hn : 126 ≤ n) {x0 : Int32} {x1 : Int32} {m : Mm} {rE : Int32} {mE : Mm} (h : f_X11_stripesOf x0 x1 m = some (rE, mE)) : CT G l yX11_stripesOf cX11_stripesOf 2 (some .int) 0 0 0 ρ n (RT t u w v x) [.int x0, .int x1] m (some (.int rE)) (RT t u w v x) mE := ct_of_J (by decide) rfl (Nat.le_of_ble_eq_true rfl) (fun X hX e1 e2 e3 e4 hQ hr hl => t_X11_stripesOf hX (Nat.le_refl _) hn ⟨by rw [hQ, e3, e4], hr, hl⟩ h)
theorem t_X11_allStripes_L8 {X : XX} {G : GG} {ρ : Nat → Nat} {n t u w v : Nat} {x : Option Nat} {d : Nat} (hX : Ok X G ρ cX11_allStripes 5 RX11 d) (hd0 : 1 ≤ d) (hn : 126 ≤ n) {rE : Int32} {mE : Mm} (hF : Fin' X G ρ n (some .int) (some (.int rE)) (RT t u w v x) mE) : ∀ (k : Nat) (v1 : Int32) (v2 : Int32) (v3 : Int32) (v4 : Int32) (m : Mm), f_X11_allStripes_L8 k v1 v2 v3 v4 m = some (rE, mE) → J X G ρ n 5 8 [(0, .ref 78), (1, .int v1), (2, .int v2), (3, .int v3), (4, .int v4)] [] (RT t u w v x) m := by
  intro k
  induction k with
  | zero => intro _ _ _ _ _ h; rw [f_X11_allStripes_L8] at h; cases h
  | succ k ih =>
    intro v1 v2 v3 v4 m h
    rw [f_X11_allStripes_L8] at h
    refine J_iload hX dX11_allStripes_8 4 rfl ?_
    refine J_bipush hX (6 : Int32) dX11_allStripes_10 (by decide) ?_
    refine J_iload_n hX dX11_allStripes_12 rfl 1 rfl ?_
    refine J_imul hX dX11_allStripes_13 ?_
    refine J_aload_n hX dX11_allStripes_14 rfl 0 rfl ?_
    refine J_getR hX dX11_allStripes_15 fl_RX11_13 (ltn ltc_78 hn) lo_78 rfl (rt_78_10 _ _ _ _ _) ?_
    refine J_iconst hX (3 : Int32) dX11_allStripes_18 ic_3 ?_
    refine J_iload_n hX dX11_allStripes_19 rfl 1 rfl ?_
    refine J_imul hX dX11_allStripes_20 ?_
    refine J_iconst hX (1 : Int32) dX11_allStripes_21 ic_1 ?_
    refine J_iadd hX dX11_allStripes_22 ?_
    refine J_iaload hX dX11_allStripes_23 (ltn ltc_80 hn) lay_80 h (fun h => ?_)
    refine J_iadd hX dX11_allStripes_24 ?_
    refine J_icmp_ge hX 48 dX11_allStripes_25 (by decide) h (fun c h => ?_) (fun c h => ?_)
    · refine J_iload_n hX dX11_allStripes_28 rfl 3 rfl ?_
      refine J_aload_n hX dX11_allStripes_29 rfl 0 rfl ?_
      refine J_getR hX dX11_allStripes_30 fl_RX11_16 (ltn ltc_78 hn) lo_78 rfl (rt_78_11 _ _ _ _ _) ?_
      refine J_iload hX dX11_allStripes_33 4 rfl ?_
      refine J_iaload hX dX11_allStripes_35 (ltn ltc_81 hn) lay_81 h (fun h => ?_)
      refine J_iload_n hX dX11_allStripes_36 rfl 2 rfl ?_
      obtain ⟨r2, m1, h0, h⟩ := bd2_some h
      refine J_callSi (As := [.int (gI m 81 (ix v4)), .int v2]) (st := [.int v3]) hX dX11_allStripes_37 cw_RX11_261 (by omega) (c_X11_stripesOf hn  h0) rfl rfl (Nat.le_of_ble_eq_true rfl) ?_
      clear h0
      refine J_iadd hX dX11_allStripes_40 ?_
      refine J_istore_n hX [(3, .int (v3 + r2)), (0, .ref 78), (1, .int v1), (2, .int v2), (4, .int v4)] dX11_allStripes_41 rfl (by decide) rfl ?_
      refine J_iinc hX (v4 + (1 : Int32)) [(4, .int (v4 + (1 : Int32))), (3, .int (v3 + r2)), (0, .ref 78), (1, .int v1), (2, .int v2)] dX11_allStripes_42 4 rfl (congrArg (fun z => v4 + z) ic_1) (by decide) rfl ?_
      refine J_goto hX 8 dX11_allStripes_45 (by decide) ?_
      refine J_sub [(0, .ref 78), (1, .int v1), (2, .int v2), (3, .int (v3 + r2)), (4, .int (v4 + (1 : Int32)))] [2, 3, 4, 1, 0] rfl ?_
      exact ih v1 v2 (v3 + r2) (v4 + (1 : Int32)) m1 h
    · refine J_iload_n hX dX11_allStripes_48 rfl 3 rfl ?_
      exact J_ireturn hX dX11_allStripes_49 h hF rfl
theorem t_X11_allStripes {X : XX} {G : GG} {ρ : Nat → Nat} {n t u w v : Nat} {x : Option Nat} {d : Nat} (hX : Ok X G ρ cX11_allStripes 5 RX11 d) (hd0 : 1 ≤ d) (hn : 126 ≤ n) {rE : Int32} {mE : Mm} (hF : Fin' X G ρ n (some .int) (some (.int rE)) (RT t u w v x) mE) {x1 : Int32} {x2 : Int32} {m : Mm} (h : f_X11_allStripes x1 x2 m = some (rE, mE)) : J X G ρ n 5 0 [(0, .ref 78), (1, .int x1), (2, .int x2)] [] (RT t u w v x) m := by
  unfold f_X11_allStripes at h
  refine J_iconst hX (0 : Int32) dX11_allStripes_0 ic_0 ?_
  refine J_istore_n hX [(3, .int (0 : Int32)), (0, .ref 78), (1, .int x1), (2, .int x2)] dX11_allStripes_1 rfl (by decide) rfl ?_
  refine J_bipush hX (6 : Int32) dX11_allStripes_2 (by decide) ?_
  refine J_iload_n hX dX11_allStripes_4 rfl 2 rfl ?_
  refine J_imul hX dX11_allStripes_5 ?_
  refine J_istore hX [(4, .int ((6 : Int32) * x1)), (3, .int (0 : Int32)), (0, .ref 78), (1, .int x1), (2, .int x2)] dX11_allStripes_6 (by decide) rfl ?_
  refine J_sub [(0, .ref 78), (1, .int x1), (2, .int x2), (3, .int (0 : Int32)), (4, .int ((6 : Int32) * x1))] [2, 3, 4, 1, 0] rfl ?_
  exact t_X11_allStripes_L8 hX hd0 hn hF FU x1 x2 (0 : Int32) ((6 : Int32) * x1)  m h
theorem c_X11_allStripes {G : GG} {l : Launch} {ρ : Nat → Nat} {n t u w v : Nat} {x : Option Nat} (hn : 126 ≤ n) {x1 : Int32} {x2 : Int32} {m : Mm} {rE : Int32} {mE : Mm} (h : f_X11_allStripes x1 x2 m = some (rE, mE)) : CT G l yX11_allStripes cX11_allStripes 5 (some .int) 1 0 0 ρ n (RT t u w v x) [.ref 78, .int x1, .int x2] m (some (.int rE)) (RT t u w v x) mE := ct_of_J (by decide) rfl (Nat.le_of_ble_eq_true rfl) (fun X hX e1 e2 e3 e4 hQ hr hl => t_X11_allStripes hX (Nat.le_refl _) hn ⟨by rw [hQ, e3, e4], hr, hl⟩ h)
theorem t_X11_begins {X : XX} {G : GG} {ρ : Nat → Nat} {n t u w v : Nat} {x : Option Nat} {d : Nat} (hX : Ok X G ρ cX11_begins 1 RX11 d) (hd0 : 2 ≤ d) (hn : 126 ≤ n) {mE : Mm} (hF : Fin' X G ρ n none none (RT t u w v x) mE) {m : Mm} (h : f_X11_begins m = some mE) : J X G ρ n 1 0 [(0, .ref 78)] [] (RT t u w v x) m := by
  unfold f_X11_begins at h
  refine J_aload_n hX dX11_begins_0 rfl 0 rfl ?_
  refine J_aload_n hX dX11_begins_1 rfl 0 rfl ?_
  refine J_getI hX dX11_begins_2 fl_RX11_158 (ltn ltc_78 hn) lo_78 rfl ?_
  refine J_putI hX dX11_begins_5 pl_RX11_161 (ltn ltc_78 hn) lo_78 rfl rfl rfl h (fun m1 h => ?_)
  refine J_aload_n hX dX11_begins_8 rfl 0 rfl ?_
  refine J_iconst hX (0 : Int32) dX11_begins_9 ic_0 ?_
  refine J_putI hX dX11_begins_10 pl_RX11_158 (ltn ltc_78 hn) lo_78 rfl rfl rfl h (fun m2 h => ?_)
  refine J_aload_n hX dX11_begins_13 rfl 0 rfl ?_
  refine J_iconst hX (0 : Int32) dX11_begins_14 ic_0 ?_
  refine J_putI hX dX11_begins_15 pl_RX11_164 (ltn ltc_78 hn) lo_78 rfl rfl rfl h (fun m3 h => ?_)
  refine J_aload_n hX dX11_begins_18 rfl 0 rfl ?_
  obtain ⟨m4, h0, h⟩ := bd1_some h
  refine J_callVv (As := []) (st := []) hX dX11_begins_19 cw_RX11_223 (by omega) (c_X11_nextToken hn  h0) (ltn ltc_78 hn) lo_78 (by decide) rfl rfl rfl (Nat.le_of_ble_eq_true rfl) ?_
  clear h0
  exact J_return hX dX11_begins_22 h hF
theorem c_X11_begins {G : GG} {l : Launch} {ρ : Nat → Nat} {n t u w v : Nat} {x : Option Nat} (hn : 126 ≤ n) {m : Mm} {mE : Mm} (h : f_X11_begins m = some mE) : CT G l yX11_begins cX11_begins 1 none 2 0 0 ρ n (RT t u w v x) [.ref 78] m none (RT t u w v x) mE := ct_of_J (by decide) rfl (Nat.le_of_ble_eq_true rfl) (fun X hX e1 e2 e3 e4 hQ hr hl => t_X11_begins hX (Nat.le_refl _) hn ⟨by rw [hQ, e3, e4], hr, hl⟩ h)
theorem t_X11_readsDisks {X : XX} {G : GG} {ρ : Nat → Nat} {n t u w v : Nat} {x : Option Nat} {d : Nat} (hX : Ok X G ρ cX11_readsDisks 1 RX11 d) (hd0 : 3 ≤ d) (hn : 126 ≤ n) {rE : Int32} {mE : Mm} (hF : Fin' X G ρ n (some .boolean) (some (.int rE)) (RT t u w v x) mE) {m : Mm} (h : f_X11_readsDisks m = some (rE, mE)) : J X G ρ n 1 0 [(0, .ref 78)] [] (RT t u w v x) m := by
  unfold f_X11_readsDisks at h
  refine J_aload_n hX dX11_readsDisks_0 rfl 0 rfl ?_
  refine J_getR hX dX11_readsDisks_1 fl_RX11_13 (ltn ltc_78 hn) lo_78 rfl (rt_78_10 _ _ _ _ _) ?_
  refine J_iconst hX (3 : Int32) dX11_readsDisks_4 ic_3 ?_
  refine J_iaload0 hX dX11_readsDisks_5 (ltn ltc_80 hn) lay_80 (by decide) ?_
  refine J_if_le hX 15 dX11_readsDisks_6 (by decide) h (fun c h => ?_) (fun c h => ?_)
  · refine J_aload_n hX dX11_readsDisks_9 rfl 0 rfl ?_
    refine J_iconst hX (3 : Int32) dX11_readsDisks_10 ic_3 ?_
    obtain ⟨r8, m7, h0, h⟩ := bd2_some h
    refine J_callVi (As := [.int (3 : Int32)]) (st := []) hX dX11_readsDisks_11 cw_RX11_216 (by omega) (c_X11_fails hn  h0) (ltn ltc_78 hn) lo_78 (by decide) rfl rfl rfl (Nat.le_of_ble_eq_true rfl) ?_
    clear h0
    obtain ⟨gB, h⟩ := gd_some h
    exact J_ireturn hX dX11_readsDisks_14 h hF (isB_nar gB)
  · refine J_aload_n hX dX11_readsDisks_15 rfl 0 rfl ?_
    obtain ⟨m1, h0, h⟩ := bd1_some h
    refine J_callVv (As := []) (st := []) hX dX11_readsDisks_16 cw_RX11_223 (by omega) (c_X11_nextToken hn  h0) (ltn ltc_78 hn) lo_78 (by decide) rfl rfl rfl (Nat.le_of_ble_eq_true rfl) ?_
    clear h0
    refine J_aload_n hX dX11_readsDisks_19 rfl 0 rfl ?_
    refine J_iconst hX (2 : Int32) dX11_readsDisks_20 ic_2 ?_
    refine J_bipush hX (13 : Int32) dX11_readsDisks_21 (by decide) ?_
    obtain ⟨r3, m2, h0, h⟩ := bd2_some h
    refine J_callVi (As := [.int (2 : Int32), .int (13 : Int32)]) (st := []) hX dX11_readsDisks_23 cw_RX11_246 (by omega) (c_X11_needsNumber hn  h0) (ltn ltc_78 hn) lo_78 (by decide) rfl rfl rfl (Nat.le_of_ble_eq_true rfl) ?_
    clear h0
    refine J_if_ne hX 31 dX11_readsDisks_26 (by decide) h (fun c h => ?_) (fun c h => ?_)
    · refine J_iconst hX (0 : Int32) dX11_readsDisks_29 ic_0 ?_
      exact J_ireturn hX dX11_readsDisks_30 h hF narrow_b0
    · refine J_aload_n hX dX11_readsDisks_31 rfl 0 rfl ?_
      refine J_getR hX dX11_readsDisks_32 fl_RX11_13 (ltn ltc_78 hn) lo_78 rfl (rt_78_10 _ _ _ _ _) ?_
      refine J_iconst hX (3 : Int32) dX11_readsDisks_35 ic_3 ?_
      refine J_aload_n hX dX11_readsDisks_36 rfl 0 rfl ?_
      refine J_getI hX dX11_readsDisks_37 fl_RX11_243 (ltn ltc_78 hn) lo_78 rfl ?_
      refine J_iastore0 hX dX11_readsDisks_40 (ltn ltc_80 hn) lay_80 (by decide) h (fun m4 h => ?_)
      refine J_aload_n hX dX11_readsDisks_41 rfl 0 rfl ?_
      obtain ⟨r6, m5, h0, h⟩ := bd2_some h
      refine J_callVi (As := []) (st := []) hX dX11_readsDisks_42 cw_RX11_250 (by omega) (c_X11_closes hn  h0) (ltn ltc_78 hn) lo_78 (by decide) rfl rfl rfl (Nat.le_of_ble_eq_true rfl) ?_
      clear h0
      obtain ⟨gB, h⟩ := gd_some h
      exact J_ireturn hX dX11_readsDisks_45 h hF (isB_nar gB)
theorem c_X11_readsDisks {G : GG} {l : Launch} {ρ : Nat → Nat} {n t u w v : Nat} {x : Option Nat} (hn : 126 ≤ n) {m : Mm} {rE : Int32} {mE : Mm} (h : f_X11_readsDisks m = some (rE, mE)) : CT G l yX11_readsDisks cX11_readsDisks 1 (some .boolean) 3 0 0 ρ n (RT t u w v x) [.ref 78] m (some (.int rE)) (RT t u w v x) mE := ct_of_J (by decide) rfl (Nat.le_of_ble_eq_true rfl) (fun X hX e1 e2 e3 e4 hQ hr hl => t_X11_readsDisks hX (Nat.le_refl _) hn ⟨by rw [hQ, e3, e4], hr, hl⟩ h)
theorem t_X11_readsBlock_J185 {X : XX} {G : GG} {ρ : Nat → Nat} {n t u w v : Nat} {x : Option Nat} {d : Nat} (hX : Ok X G ρ cX11_readsBlock 3 RX11 d) (hd0 : 3 ≤ d) (hn : 126 ≤ n) {rE : Int32} {mE : Mm} (hF : Fin' X G ρ n (some .boolean) (some (.int rE)) (RT t u w v x) mE) {K117 : Int32 → Int32 → Mm → Option (Int32 × Mm)} (v1 : Int32) (v2 : Int32) (hK117 : ∀ (w1 : Int32) (w2 : Int32) (m : Mm), K117 w1 w2 m = some (rE, mE) → J X G ρ n 3 117 [(0, .ref 78), (1, .int w1), (2, .int w2)] [] (RT t u w v x) m) (m : Mm) (h : f_X11_readsBlock_J185 K117 v1 v2 m = some (rE, mE)) : J X G ρ n 3 185 [(0, .ref 78), (1, .int v1), (2, .int v2)] [] (RT t u w v x) m := by
  unfold f_X11_readsBlock_J185 at h
  refine J_aload_n hX dX11_readsBlock_185 rfl 0 rfl ?_
  refine J_getI hX dX11_readsBlock_186 fl_RX11_174 (ltn ltc_78 hn) lo_78 rfl ?_
  refine J_iconst hX (0 : Int32) dX11_readsBlock_189 ic_0 ?_
  refine J_aload_n hX dX11_readsBlock_190 rfl 0 rfl ?_
  refine J_getR hX dX11_readsBlock_191 fl_RX11_13 (ltn ltc_78 hn) lo_78 rfl (rt_78_10 _ _ _ _ _) ?_
  refine J_iconst hX (3 : Int32) dX11_readsBlock_194 ic_3 ?_
  refine J_iaload0 hX dX11_readsBlock_195 (ltn ltc_80 hn) lay_80 (by decide) ?_
  refine J_iconst hX (1 : Int32) dX11_readsBlock_196 ic_1 ?_
  refine J_isub hX dX11_readsBlock_197 ?_
  obtain ⟨r16, m15, h0, h⟩ := bd2_some h
  refine J_callSi (As := [.int (gI m 78 8), .int (0 : Int32), .int ((gI m 80 (ix (3 : Int32))) - (1 : Int32))]) (st := []) hX dX11_readsBlock_198 cw_RX11_239 (by omega) (c_X11_within hn  h0) rfl rfl (Nat.le_of_ble_eq_true rfl) ?_
  clear h0
  refine J_if_ne hX 210 dX11_readsBlock_201 (by decide) h (fun c h => ?_) (fun c h => ?_)
  · refine J_aload_n hX dX11_readsBlock_204 rfl 0 rfl ?_
    refine J_iconst hX (4 : Int32) dX11_readsBlock_205 ic_4 ?_
    obtain ⟨r23, m22, h0, h⟩ := bd2_some h
    refine J_callVi (As := [.int (4 : Int32)]) (st := []) hX dX11_readsBlock_206 cw_RX11_216 (by omega) (c_X11_fails hn  h0) (ltn ltc_78 hn) lo_78 (by decide) rfl rfl rfl (Nat.le_of_ble_eq_true rfl) ?_
    clear h0
    obtain ⟨gB, h⟩ := gd_some h
    exact J_ireturn hX dX11_readsBlock_209 h hF (isB_nar gB)
  · refine J_aload_n hX dX11_readsBlock_210 rfl 0 rfl ?_
    refine J_getR hX dX11_readsBlock_211 fl_RX11_19 (ltn ltc_78 hn) lo_78 rfl (rt_78_12 _ _ _ _ _) ?_
    refine J_iload_n hX dX11_readsBlock_214 rfl 1 rfl ?_
    refine J_iaload hX dX11_readsBlock_215 (ltn ltc_82 hn) lay_82 h (fun h => ?_)
    refine J_iconst hX (5 : Int32) dX11_readsBlock_216 ic_5 ?_
    refine J_icmp_ne hX 226 dX11_readsBlock_217 (by decide) h (fun c h => ?_) (fun c h => ?_)
    · refine J_aload_n hX dX11_readsBlock_220 rfl 0 rfl ?_
      refine J_iconst hX (5 : Int32) dX11_readsBlock_221 ic_5 ?_
      obtain ⟨r21, m20, h0, h⟩ := bd2_some h
      refine J_callVi (As := [.int (5 : Int32)]) (st := []) hX dX11_readsBlock_222 cw_RX11_216 (by omega) (c_X11_fails hn  h0) (ltn ltc_78 hn) lo_78 (by decide) rfl rfl rfl (Nat.le_of_ble_eq_true rfl) ?_
      clear h0
      obtain ⟨gB, h⟩ := gd_some h
      exact J_ireturn hX dX11_readsBlock_225 h hF (isB_nar gB)
    · refine J_aload_n hX dX11_readsBlock_226 rfl 0 rfl ?_
      refine J_getR hX dX11_readsBlock_227 fl_RX11_22 (ltn ltc_78 hn) lo_78 rfl (rt_78_13 _ _ _ _ _) ?_
      refine J_iconst hX (5 : Int32) dX11_readsBlock_230 ic_5 ?_
      refine J_iload_n hX dX11_readsBlock_231 rfl 1 rfl ?_
      refine J_imul hX dX11_readsBlock_232 ?_
      refine J_aload_n hX dX11_readsBlock_233 rfl 0 rfl ?_
      refine J_getR hX dX11_readsBlock_234 fl_RX11_19 (ltn ltc_78 hn) lo_78 rfl (rt_78_12 _ _ _ _ _) ?_
      refine J_iload_n hX dX11_readsBlock_237 rfl 1 rfl ?_
      refine J_iaload hX dX11_readsBlock_238 (ltn ltc_82 hn) lay_82 h (fun h => ?_)
      refine J_iadd hX dX11_readsBlock_239 ?_
      refine J_aload_n hX dX11_readsBlock_240 rfl 0 rfl ?_
      refine J_getI hX dX11_readsBlock_241 fl_RX11_174 (ltn ltc_78 hn) lo_78 rfl ?_
      refine J_iastore hX dX11_readsBlock_244 (ltn ltc_83 hn) lay_83 h (fun m17 h => ?_)
      refine J_iload_n hX dX11_readsBlock_245 rfl 2 rfl ?_
      refine J_iconst hX (1 : Int32) dX11_readsBlock_246 ic_1 ?_
      refine J_aload_n hX dX11_readsBlock_247 rfl 0 rfl ?_
      refine J_getI hX dX11_readsBlock_248 fl_RX11_174 (ltn ltc_78 hn) lo_78 rfl ?_
      refine J_ishl hX dX11_readsBlock_251 ?_
      refine J_ior hX dX11_readsBlock_252 ?_
      refine J_istore_n hX [(2, .int (v2 ||| ((1 : Int32) <<< ((gI m17 78 8) &&& 31)))), (0, .ref 78), (1, .int v1)] dX11_readsBlock_253 rfl (by decide) rfl ?_
      refine J_aload_n hX dX11_readsBlock_254 rfl 1 rfl ?_
      refine J_getR hX dX11_readsBlock_255 fl_RX11_19 (ltn ltc_78 hn) lo_78 rfl (rt_78_12 _ _ _ _ _) ?_
      refine J_iload_n hX dX11_readsBlock_258 rfl 2 rfl ?_
      refine J_dup2 hX dX11_readsBlock_259 rfl rfl ?_
      refine J_iaload hX dX11_readsBlock_260 (ltn ltc_82 hn) lay_82 h (fun h => ?_)
      refine J_iconst hX (1 : Int32) dX11_readsBlock_261 ic_1 ?_
      refine J_iadd hX dX11_readsBlock_262 ?_
      refine J_iastore hX dX11_readsBlock_263 (ltn ltc_82 hn) lay_82 h (fun m18 h => ?_)
      refine J_aload_n hX dX11_readsBlock_264 rfl 1 rfl ?_
      obtain ⟨m19, h0, h⟩ := bd1_some h
      refine J_callVv (As := []) (st := []) hX dX11_readsBlock_265 cw_RX11_223 (by omega) (c_X11_nextToken hn  h0) (ltn ltc_78 hn) lo_78 (by decide) rfl rfl rfl (Nat.le_of_ble_eq_true rfl) ?_
      clear h0
      refine J_goto hX 117 dX11_readsBlock_268 (by decide) ?_
      refine J_sub [(0, .ref 78), (1, .int v1), (2, .int (v2 ||| ((1 : Int32) <<< ((gI m17 78 8) &&& 31))))] [1, 2, 0] rfl ?_
      exact hK117 v1 (v2 ||| ((1 : Int32) <<< ((gI m17 78 8) &&& 31))) m19 h
theorem t_X11_readsBlock_J135 {X : XX} {G : GG} {ρ : Nat → Nat} {n t u w v : Nat} {x : Option Nat} {d : Nat} (hX : Ok X G ρ cX11_readsBlock 3 RX11 d) (hd0 : 3 ≤ d) (hn : 126 ≤ n) {rE : Int32} {mE : Mm} (hF : Fin' X G ρ n (some .boolean) (some (.int rE)) (RT t u w v x) mE) {K117 : Int32 → Int32 → Mm → Option (Int32 × Mm)} (v1 : Int32) (v2 : Int32) (hK117 : ∀ (w1 : Int32) (w2 : Int32) (m : Mm), K117 w1 w2 m = some (rE, mE) → J X G ρ n 3 117 [(0, .ref 78), (1, .int w1), (2, .int w2)] [] (RT t u w v x) m) (m : Mm) (h : f_X11_readsBlock_J135 K117 v1 v2 m = some (rE, mE)) : J X G ρ n 3 135 [(0, .ref 78), (1, .int v1), (2, .int v2)] [] (RT t u w v x) m := by
  unfold f_X11_readsBlock_J135 at h
  refine J_aload_n hX dX11_readsBlock_135 rfl 0 rfl ?_
  refine J_getI hX dX11_readsBlock_136 fl_RX11_177 (ltn ltc_78 hn) lo_78 rfl ?_
  refine J_iconst hX (2 : Int32) dX11_readsBlock_139 ic_2 ?_
  refine J_icmp_eq hX 149 dX11_readsBlock_140 (by decide) h (fun c h => ?_) (fun c h => ?_)
  · refine J_aload_n hX dX11_readsBlock_149 rfl 0 rfl ?_
    refine J_getI hX dX11_readsBlock_150 fl_RX11_174 (ltn ltc_78 hn) lo_78 rfl ?_
    refine J_iconst hX (0 : Int32) dX11_readsBlock_153 ic_0 ?_
    refine J_aload_n hX dX11_readsBlock_154 rfl 0 rfl ?_
    refine J_getR hX dX11_readsBlock_155 fl_RX11_13 (ltn ltc_78 hn) lo_78 rfl (rt_78_10 _ _ _ _ _) ?_
    refine J_iconst hX (3 : Int32) dX11_readsBlock_158 ic_3 ?_
    refine J_iaload0 hX dX11_readsBlock_159 (ltn ltc_80 hn) lay_80 (by decide) ?_
    refine J_iconst hX (1 : Int32) dX11_readsBlock_160 ic_1 ?_
    refine J_isub hX dX11_readsBlock_161 ?_
    obtain ⟨r14, m13, h0, h⟩ := bd2_some h
    refine J_callSi (As := [.int (gI m 78 8), .int (0 : Int32), .int ((gI m 80 (ix (3 : Int32))) - (1 : Int32))]) (st := []) hX dX11_readsBlock_162 cw_RX11_239 (by omega) (c_X11_within hn  h0) rfl rfl (Nat.le_of_ble_eq_true rfl) ?_
    clear h0
    refine J_if_eq hX 185 dX11_readsBlock_165 (by decide) h (fun c h => ?_) (fun c h => ?_)
    · exact t_X11_readsBlock_J185 hX hd0 hn hF v1 v2 hK117 m13 h
    · refine J_iload_n hX dX11_readsBlock_168 rfl 2 rfl ?_
      refine J_aload_n hX dX11_readsBlock_169 rfl 0 rfl ?_
      refine J_getI hX dX11_readsBlock_170 fl_RX11_174 (ltn ltc_78 hn) lo_78 rfl ?_
      obtain ⟨r25, m24, h0, h⟩ := bd2_some h
      refine J_callSi (As := [.int v2, .int (gI m13 78 8)]) (st := []) hX dX11_readsBlock_173 cw_RX11_273 (by omega) (c_X11_isIn hn  h0) rfl rfl (Nat.le_of_ble_eq_true rfl) ?_
      clear h0
      refine J_if_eq hX 185 dX11_readsBlock_176 (by decide) h (fun c h => ?_) (fun c h => ?_)
      · exact t_X11_readsBlock_J185 hX hd0 hn hF v1 v2 hK117 m24 h
      · refine J_aload_n hX dX11_readsBlock_179 rfl 0 rfl ?_
        refine J_iconst hX (3 : Int32) dX11_readsBlock_180 ic_3 ?_
        obtain ⟨r27, m26, h0, h⟩ := bd2_some h
        refine J_callVi (As := [.int (3 : Int32)]) (st := []) hX dX11_readsBlock_181 cw_RX11_216 (by omega) (c_X11_fails hn  h0) (ltn ltc_78 hn) lo_78 (by decide) rfl rfl rfl (Nat.le_of_ble_eq_true rfl) ?_
        clear h0
        obtain ⟨gB, h⟩ := gd_some h
        exact J_ireturn hX dX11_readsBlock_184 h hF (isB_nar gB)
  · refine J_aload_n hX dX11_readsBlock_143 rfl 0 rfl ?_
    refine J_iconst hX (1 : Int32) dX11_readsBlock_144 ic_1 ?_
    obtain ⟨r29, m28, h0, h⟩ := bd2_some h
    refine J_callVi (As := [.int (1 : Int32)]) (st := []) hX dX11_readsBlock_145 cw_RX11_216 (by omega) (c_X11_fails hn  h0) (ltn ltc_78 hn) lo_78 (by decide) rfl rfl rfl (Nat.le_of_ble_eq_true rfl) ?_
    clear h0
    obtain ⟨gB, h⟩ := gd_some h
    exact J_ireturn hX dX11_readsBlock_148 h hF (isB_nar gB)
theorem t_X11_readsBlock_L117 {X : XX} {G : GG} {ρ : Nat → Nat} {n t u w v : Nat} {x : Option Nat} {d : Nat} (hX : Ok X G ρ cX11_readsBlock 3 RX11 d) (hd0 : 3 ≤ d) (hn : 126 ≤ n) {rE : Int32} {mE : Mm} (hF : Fin' X G ρ n (some .boolean) (some (.int rE)) (RT t u w v x) mE) : ∀ (k : Nat) (v1 : Int32) (v2 : Int32) (m : Mm), f_X11_readsBlock_L117 k v1 v2 m = some (rE, mE) → J X G ρ n 3 117 [(0, .ref 78), (1, .int v1), (2, .int v2)] [] (RT t u w v x) m := by
  intro k
  induction k with
  | zero => intro _ _ _ h; rw [f_X11_readsBlock_L117] at h; cases h
  | succ k ih =>
    intro v1 v2 m h
    rw [f_X11_readsBlock_L117] at h
    refine J_aload_n hX dX11_readsBlock_117 rfl 0 rfl ?_
    refine J_getR hX dX11_readsBlock_118 fl_RX11_19 (ltn ltc_78 hn) lo_78 rfl (rt_78_12 _ _ _ _ _) ?_
    refine J_iload_n hX dX11_readsBlock_121 rfl 1 rfl ?_
    refine J_iaload hX dX11_readsBlock_122 (ltn ltc_82 hn) lay_82 h (fun h => ?_)
    refine J_iconst hX (2 : Int32) dX11_readsBlock_123 ic_2 ?_
    refine J_icmp_lt hX 135 dX11_readsBlock_124 (by decide) h (fun c h => ?_) (fun c h => ?_)
    · exact t_X11_readsBlock_J135 hX hd0 hn hF v1 v2 (fun w1 w2 m h => ih w1 w2 m h) m h
    · refine J_aload_n hX dX11_readsBlock_127 rfl 0 rfl ?_
      refine J_getI hX dX11_readsBlock_128 fl_RX11_177 (ltn ltc_78 hn) lo_78 rfl ?_
      refine J_iconst hX (2 : Int32) dX11_readsBlock_131 ic_2 ?_
      refine J_icmp_ne hX 271 dX11_readsBlock_132 (by decide) h (fun c h => ?_) (fun c h => ?_)
      · exact t_X11_readsBlock_J135 hX hd0 hn hF v1 v2 (fun w1 w2 m h => ih w1 w2 m h) m h
      · refine J_aload_n hX dX11_readsBlock_271 rfl 0 rfl ?_
        refine J_getR hX dX11_readsBlock_272 fl_RX11_13 (ltn ltc_78 hn) lo_78 rfl (rt_78_10 _ _ _ _ _) ?_
        refine J_iconst hX (4 : Int32) dX11_readsBlock_275 ic_4 ?_
        refine J_dup2 hX dX11_readsBlock_276 rfl rfl ?_
        refine J_iaload0 hX dX11_readsBlock_277 (ltn ltc_80 hn) lay_80 (by decide) ?_
        refine J_iconst hX (1 : Int32) dX11_readsBlock_278 ic_1 ?_
        refine J_iadd hX dX11_readsBlock_279 ?_
        refine J_iastore0 hX dX11_readsBlock_280 (ltn ltc_80 hn) lay_80 (by decide) h (fun m30 h => ?_)
        refine J_aload_n hX dX11_readsBlock_281 rfl 0 rfl ?_
        refine J_bipush hX (59 : Int32) dX11_readsBlock_282 (by decide) ?_
        obtain ⟨r32, m31, h0, h⟩ := bd2_some h
        refine J_callVi (As := [.int (59 : Int32)]) (st := []) hX dX11_readsBlock_284 cw_RX11_212 (by omega) (c_X11_isSign hn  h0) (ltn ltc_78 hn) lo_78 (by decide) rfl rfl rfl (Nat.le_of_ble_eq_true rfl) ?_
        clear h0
        refine J_if_eq hX 312 dX11_readsBlock_287 (by decide) h (fun c h => ?_) (fun c h => ?_)
        · refine J_aload_n hX dX11_readsBlock_312 rfl 0 rfl ?_
          obtain ⟨r34, m33, h0, h⟩ := bd2_some h
          refine J_callVi (As := []) (st := []) hX dX11_readsBlock_313 cw_RX11_250 (by omega) (c_X11_closes hn  h0) (ltn ltc_78 hn) lo_78 (by decide) rfl rfl rfl (Nat.le_of_ble_eq_true rfl) ?_
          clear h0
          obtain ⟨gB, h⟩ := gd_some h
          exact J_ireturn hX dX11_readsBlock_316 h hF (isB_nar gB)
        · refine J_aload_n hX dX11_readsBlock_290 rfl 0 rfl ?_
          refine J_iconst hX (1 : Int32) dX11_readsBlock_291 ic_1 ?_
          refine J_aload_n hX dX11_readsBlock_292 rfl 0 rfl ?_
          refine J_getR hX dX11_readsBlock_293 fl_RX11_13 (ltn ltc_78 hn) lo_78 rfl (rt_78_10 _ _ _ _ _) ?_
          refine J_iconst hX (3 : Int32) dX11_readsBlock_296 ic_3 ?_
          refine J_iaload0 hX dX11_readsBlock_297 (ltn ltc_80 hn) lay_80 (by decide) ?_
          obtain ⟨r36, m35, h0, h⟩ := bd2_some h
          refine J_callVi (As := [.int (1 : Int32), .int (gI m31 80 (ix (3 : Int32)))]) (st := []) hX dX11_readsBlock_298 cw_RX11_276 (by omega) (c_X11_allStripes hn  h0) (ltn ltc_78 hn) lo_78 (by decide) rfl rfl rfl (Nat.le_of_ble_eq_true rfl) ?_
          clear h0
          refine J_bipush hX (40 : Int32) dX11_readsBlock_301 (by decide) ?_
          refine J_icmp_le hX 312 dX11_readsBlock_303 (by decide) h (fun c h => ?_) (fun c h => ?_)
          · refine J_aload_n hX dX11_readsBlock_306 rfl 0 rfl ?_
            refine J_iconst hX (5 : Int32) dX11_readsBlock_307 ic_5 ?_
            obtain ⟨r40, m39, h0, h⟩ := bd2_some h
            refine J_callVi (As := [.int (5 : Int32)]) (st := []) hX dX11_readsBlock_308 cw_RX11_216 (by omega) (c_X11_fails hn  h0) (ltn ltc_78 hn) lo_78 (by decide) rfl rfl rfl (Nat.le_of_ble_eq_true rfl) ?_
            clear h0
            obtain ⟨gB, h⟩ := gd_some h
            exact J_ireturn hX dX11_readsBlock_311 h hF (isB_nar gB)
          · refine J_aload_n hX dX11_readsBlock_312 rfl 0 rfl ?_
            obtain ⟨r38, m37, h0, h⟩ := bd2_some h
            refine J_callVi (As := []) (st := []) hX dX11_readsBlock_313 cw_RX11_250 (by omega) (c_X11_closes hn  h0) (ltn ltc_78 hn) lo_78 (by decide) rfl rfl rfl (Nat.le_of_ble_eq_true rfl) ?_
            clear h0
            obtain ⟨gB, h⟩ := gd_some h
            exact J_ireturn hX dX11_readsBlock_316 h hF (isB_nar gB)
theorem t_X11_readsBlock_J88 {X : XX} {G : GG} {ρ : Nat → Nat} {n t u w v : Nat} {x : Option Nat} {d : Nat} (hX : Ok X G ρ cX11_readsBlock 3 RX11 d) (hd0 : 3 ≤ d) (hn : 126 ≤ n) {rE : Int32} {mE : Mm} (hF : Fin' X G ρ n (some .boolean) (some (.int rE)) (RT t u w v x) mE) (v1 : Int32) (s0 : Int32) (s1 : Int32) (m : Mm) (h : f_X11_readsBlock_J88 v1 s0 s1 m = some (rE, mE)) : J X G ρ n 3 88 [(0, .ref 78), (1, .int v1)] [.int s0, .int s1, .ref 81] (RT t u w v x) m := by
  unfold f_X11_readsBlock_J88 at h
  refine J_iastore hX dX11_readsBlock_88 (ltn ltc_81 hn) lay_81 h (fun m10 h => ?_)
  refine J_aload_n hX dX11_readsBlock_89 rfl 0 rfl ?_
  refine J_getR hX dX11_readsBlock_90 fl_RX11_16 (ltn ltc_78 hn) lo_78 rfl (rt_78_11 _ _ _ _ _) ?_
  refine J_iload_n hX dX11_readsBlock_93 rfl 1 rfl ?_
  refine J_iaload hX dX11_readsBlock_94 (ltn ltc_81 hn) lay_81 h (fun h => ?_)
  refine J_if_ge hX 104 dX11_readsBlock_95 (by decide) h (fun c h => ?_) (fun c h => ?_)
  · refine J_aload_n hX dX11_readsBlock_98 rfl 0 rfl ?_
    refine J_iconst hX (1 : Int32) dX11_readsBlock_99 ic_1 ?_
    obtain ⟨r42, m41, h0, h⟩ := bd2_some h
    refine J_callVi (As := [.int (1 : Int32)]) (st := []) hX dX11_readsBlock_100 cw_RX11_216 (by omega) (c_X11_fails hn  h0) (ltn ltc_78 hn) lo_78 (by decide) rfl rfl rfl (Nat.le_of_ble_eq_true rfl) ?_
    clear h0
    obtain ⟨gB, h⟩ := gd_some h
    exact J_ireturn hX dX11_readsBlock_103 h hF (isB_nar gB)
  · refine J_aload_n hX dX11_readsBlock_104 rfl 0 rfl ?_
    obtain ⟨m11, h0, h⟩ := bd1_some h
    refine J_callVv (As := []) (st := []) hX dX11_readsBlock_105 cw_RX11_223 (by omega) (c_X11_nextToken hn  h0) (ltn ltc_78 hn) lo_78 (by decide) rfl rfl rfl (Nat.le_of_ble_eq_true rfl) ?_
    clear h0
    refine J_aload_n hX dX11_readsBlock_108 rfl 0 rfl ?_
    refine J_getR hX dX11_readsBlock_109 fl_RX11_19 (ltn ltc_78 hn) lo_78 rfl (rt_78_12 _ _ _ _ _) ?_
    refine J_iload_n hX dX11_readsBlock_112 rfl 1 rfl ?_
    refine J_iconst hX (0 : Int32) dX11_readsBlock_113 ic_0 ?_
    refine J_iastore hX dX11_readsBlock_114 (ltn ltc_82 hn) lay_82 h (fun m12 h => ?_)
    refine J_iconst hX (0 : Int32) dX11_readsBlock_115 ic_0 ?_
    refine J_istore_n hX [(2, .int (0 : Int32)), (0, .ref 78), (1, .int v1)] dX11_readsBlock_116 rfl (by decide) rfl ?_
    refine J_sub [(0, .ref 78), (1, .int v1), (2, .int (0 : Int32))] [1, 2, 0] rfl ?_
    exact t_X11_readsBlock_L117 hX hd0 hn hF FU v1 (0 : Int32)  m12 h
theorem t_X11_readsBlock {X : XX} {G : GG} {ρ : Nat → Nat} {n t u w v : Nat} {x : Option Nat} {d : Nat} (hX : Ok X G ρ cX11_readsBlock 3 RX11 d) (hd0 : 3 ≤ d) (hn : 126 ≤ n) {rE : Int32} {mE : Mm} (hF : Fin' X G ρ n (some .boolean) (some (.int rE)) (RT t u w v x) mE) {m : Mm} (h : f_X11_readsBlock m = some (rE, mE)) : J X G ρ n 3 0 [(0, .ref 78)] [] (RT t u w v x) m := by
  unfold f_X11_readsBlock at h
  refine J_bipush hX (6 : Int32) dX11_readsBlock_0 (by decide) ?_
  refine J_aload_n hX dX11_readsBlock_2 rfl 0 rfl ?_
  refine J_getR hX dX11_readsBlock_3 fl_RX11_13 (ltn ltc_78 hn) lo_78 rfl (rt_78_10 _ _ _ _ _) ?_
  refine J_iconst hX (4 : Int32) dX11_readsBlock_6 ic_4 ?_
  refine J_iaload0 hX dX11_readsBlock_7 (ltn ltc_80 hn) lay_80 (by decide) ?_
  refine J_iadd hX dX11_readsBlock_8 ?_
  refine J_istore_n hX [(1, .int ((6 : Int32) + (gI m 80 (ix (4 : Int32))))), (0, .ref 78)] dX11_readsBlock_9 rfl (by decide) rfl ?_
  refine J_iload_n hX dX11_readsBlock_10 rfl 0 rfl ?_
  refine J_bipush hX (12 : Int32) dX11_readsBlock_11 (by decide) ?_
  refine J_icmp_ne hX 22 dX11_readsBlock_13 (by decide) h (fun c h => ?_) (fun c h => ?_)
  · refine J_aload_n hX dX11_readsBlock_16 rfl 1 rfl ?_
    refine J_iconst hX (5 : Int32) dX11_readsBlock_17 ic_5 ?_
    obtain ⟨r44, m43, h0, h⟩ := bd2_some h
    refine J_callVi (As := [.int (5 : Int32)]) (st := []) hX dX11_readsBlock_18 cw_RX11_216 (by omega) (c_X11_fails hn  h0) (ltn ltc_78 hn) lo_78 (by decide) rfl rfl rfl (Nat.le_of_ble_eq_true rfl) ?_
    clear h0
    obtain ⟨gB, h⟩ := gd_some h
    exact J_ireturn hX dX11_readsBlock_21 h hF (isB_nar gB)
  · refine J_aload_n hX dX11_readsBlock_22 rfl 1 rfl ?_
    obtain ⟨m1, h0, h⟩ := bd1_some h
    refine J_callVv (As := []) (st := []) hX dX11_readsBlock_23 cw_RX11_223 (by omega) (c_X11_nextToken hn  h0) (ltn ltc_78 hn) lo_78 (by decide) rfl rfl rfl (Nat.le_of_ble_eq_true rfl) ?_
    clear h0
    refine J_aload_n hX dX11_readsBlock_26 rfl 1 rfl ?_
    refine J_getR hX dX11_readsBlock_27 fl_RX11_16 (ltn ltc_78 hn) lo_78 rfl (rt_78_11 _ _ _ _ _) ?_
    refine J_iload_n hX dX11_readsBlock_30 rfl 0 rfl ?_
    refine J_aload_n hX dX11_readsBlock_31 rfl 1 rfl ?_
    refine J_ldc2 hX (305537 : Int64) dX11_readsBlock_32 k_RX11_265 ?_
    obtain ⟨r3, m2, h0, h⟩ := bd2_some h
    refine J_callVi (As := [.long (305537 : Int64)]) (st := [.int ((6 : Int32) + (gI m 80 (ix (4 : Int32)))), .ref 81]) hX dX11_readsBlock_35 cw_RX11_208 (by omega) (c_X11_isWord hn  h0) (ltn ltc_78 hn) lo_78 (by decide) rfl rfl rfl (Nat.le_of_ble_eq_true rfl) ?_
    clear h0
    refine J_if_eq hX 45 dX11_readsBlock_38 (by decide) h (fun c h => ?_) (fun c h => ?_)
    · refine J_aload_n hX dX11_readsBlock_45 rfl 1 rfl ?_
      refine J_ldc2 hX (2088914 : Int64) dX11_readsBlock_46 k_RX11_267 ?_
      obtain ⟨r5, m4, h0, h⟩ := bd2_some h
      refine J_callVi (As := [.long (2088914 : Int64)]) (st := [.int ((6 : Int32) + (gI m 80 (ix (4 : Int32)))), .ref 81]) hX dX11_readsBlock_49 cw_RX11_208 (by omega) (c_X11_isWord hn  h0) (ltn ltc_78 hn) lo_78 (by decide) rfl rfl rfl (Nat.le_of_ble_eq_true rfl) ?_
      clear h0
      refine J_if_eq hX 59 dX11_readsBlock_52 (by decide) h (fun c h => ?_) (fun c h => ?_)
      · refine J_aload_n hX dX11_readsBlock_59 rfl 1 rfl ?_
        refine J_ldc2 hX (191686599 : Int64) dX11_readsBlock_60 k_RX11_269 ?_
        obtain ⟨r7, m6, h0, h⟩ := bd2_some h
        refine J_callVi (As := [.long (191686599 : Int64)]) (st := [.int ((6 : Int32) + (gI m 80 (ix (4 : Int32)))), .ref 81]) hX dX11_readsBlock_63 cw_RX11_208 (by omega) (c_X11_isWord hn  h0) (ltn ltc_78 hn) lo_78 (by decide) rfl rfl rfl (Nat.le_of_ble_eq_true rfl) ?_
        clear h0
        refine J_if_eq hX 73 dX11_readsBlock_66 (by decide) h (fun c h => ?_) (fun c h => ?_)
        · refine J_aload_n hX dX11_readsBlock_73 rfl 1 rfl ?_
          refine J_ldc2 hX (11088176 : Int64) dX11_readsBlock_74 k_RX11_271 ?_
          obtain ⟨r9, m8, h0, h⟩ := bd2_some h
          refine J_callVi (As := [.long (11088176 : Int64)]) (st := [.int ((6 : Int32) + (gI m 80 (ix (4 : Int32)))), .ref 81]) hX dX11_readsBlock_77 cw_RX11_208 (by omega) (c_X11_isWord hn  h0) (ltn ltc_78 hn) lo_78 (by decide) rfl rfl rfl (Nat.le_of_ble_eq_true rfl) ?_
          clear h0
          refine J_if_eq hX 87 dX11_readsBlock_80 (by decide) h (fun c h => ?_) (fun c h => ?_)
          · refine J_iconst hX (-1 : Int32) dX11_readsBlock_87 ic_m1 ?_
            refine J_sub [(0, .ref 78), (1, .int ((6 : Int32) + (gI m 80 (ix (4 : Int32)))))] [1, 0] rfl ?_
            exact t_X11_readsBlock_J88 hX hd0 hn hF ((6 : Int32) + (gI m 80 (ix (4 : Int32)))) (-1 : Int32) ((6 : Int32) + (gI m 80 (ix (4 : Int32)))) m8 h
          · refine J_iconst hX (3 : Int32) dX11_readsBlock_83 ic_3 ?_
            refine J_goto hX 88 dX11_readsBlock_84 (by decide) ?_
            refine J_sub [(0, .ref 78), (1, .int ((6 : Int32) + (gI m 80 (ix (4 : Int32)))))] [1, 0] rfl ?_
            exact t_X11_readsBlock_J88 hX hd0 hn hF ((6 : Int32) + (gI m 80 (ix (4 : Int32)))) (3 : Int32) ((6 : Int32) + (gI m 80 (ix (4 : Int32)))) m8 h
        · refine J_iconst hX (2 : Int32) dX11_readsBlock_69 ic_2 ?_
          refine J_goto hX 88 dX11_readsBlock_70 (by decide) ?_
          refine J_sub [(0, .ref 78), (1, .int ((6 : Int32) + (gI m 80 (ix (4 : Int32)))))] [1, 0] rfl ?_
          exact t_X11_readsBlock_J88 hX hd0 hn hF ((6 : Int32) + (gI m 80 (ix (4 : Int32)))) (2 : Int32) ((6 : Int32) + (gI m 80 (ix (4 : Int32)))) m6 h
      · refine J_iconst hX (1 : Int32) dX11_readsBlock_55 ic_1 ?_
        refine J_goto hX 88 dX11_readsBlock_56 (by decide) ?_
        refine J_sub [(0, .ref 78), (1, .int ((6 : Int32) + (gI m 80 (ix (4 : Int32)))))] [1, 0] rfl ?_
        exact t_X11_readsBlock_J88 hX hd0 hn hF ((6 : Int32) + (gI m 80 (ix (4 : Int32)))) (1 : Int32) ((6 : Int32) + (gI m 80 (ix (4 : Int32)))) m4 h
    · refine J_iconst hX (0 : Int32) dX11_readsBlock_41 ic_0 ?_
      refine J_goto hX 88 dX11_readsBlock_42 (by decide) ?_
      refine J_sub [(0, .ref 78), (1, .int ((6 : Int32) + (gI m 80 (ix (4 : Int32)))))] [1, 0] rfl ?_
      exact t_X11_readsBlock_J88 hX hd0 hn hF ((6 : Int32) + (gI m 80 (ix (4 : Int32)))) (0 : Int32) ((6 : Int32) + (gI m 80 (ix (4 : Int32)))) m2 h
theorem c_X11_readsBlock {G : GG} {l : Launch} {ρ : Nat → Nat} {n t u w v : Nat} {x : Option Nat} (hn : 126 ≤ n) {m : Mm} {rE : Int32} {mE : Mm} (h : f_X11_readsBlock m = some (rE, mE)) : CT G l yX11_readsBlock cX11_readsBlock 3 (some .boolean) 3 0 0 ρ n (RT t u w v x) [.ref 78] m (some (.int rE)) (RT t u w v x) mE := ct_of_J (by decide) rfl (Nat.le_of_ble_eq_true rfl) (fun X hX e1 e2 e3 e4 hQ hr hl => t_X11_readsBlock hX (Nat.le_refl _) hn ⟨by rw [hQ, e3, e4], hr, hl⟩ h)
theorem t_X11_readsParity {X : XX} {G : GG} {ρ : Nat → Nat} {n t u w v : Nat} {x : Option Nat} {d : Nat} (hX : Ok X G ρ cX11_readsParity 1 RX11 d) (hd0 : 3 ≤ d) (hn : 126 ≤ n) {rE : Int32} {mE : Mm} (hF : Fin' X G ρ n (some .boolean) (some (.int rE)) (RT t u w v x) mE) {m : Mm} (h : f_X11_readsParity m = some (rE, mE)) : J X G ρ n 1 0 [(0, .ref 78)] [] (RT t u w v x) m := by
  unfold f_X11_readsParity at h
  refine J_aload_n hX dX11_readsParity_0 rfl 0 rfl ?_
  refine J_getR hX dX11_readsParity_1 fl_RX11_28 (ltn ltc_78 hn) lo_78 rfl (rt_78_15 _ _ _ _ _) ?_
  refine J_iconst hX (1 : Int32) dX11_readsParity_4 ic_1 ?_
  refine J_iaload0 hX dX11_readsParity_5 (ltn ltc_85 hn) lay_85 (by decide) ?_
  refine J_aload_n hX dX11_readsParity_6 rfl 0 rfl ?_
  refine J_getR hX dX11_readsParity_7 fl_RX11_25 (ltn ltc_78 hn) lo_78 rfl (rt_78_14 _ _ _ _ _) ?_
  refine J_iconst hX (1 : Int32) dX11_readsParity_10 ic_1 ?_
  refine J_iaload0 hX dX11_readsParity_11 (ltn ltc_84 hn) lay_84 (by decide) ?_
  refine J_icmp_le hX 21 dX11_readsParity_12 (by decide) h (fun c h => ?_) (fun c h => ?_)
  · refine J_aload_n hX dX11_readsParity_15 rfl 0 rfl ?_
    refine J_iconst hX (3 : Int32) dX11_readsParity_16 ic_3 ?_
    obtain ⟨r7, m6, h0, h⟩ := bd2_some h
    refine J_callVi (As := [.int (3 : Int32)]) (st := []) hX dX11_readsParity_17 cw_RX11_216 (by omega) (c_X11_fails hn  h0) (ltn ltc_78 hn) lo_78 (by decide) rfl rfl rfl (Nat.le_of_ble_eq_true rfl) ?_
    clear h0
    obtain ⟨gB, h⟩ := gd_some h
    exact J_ireturn hX dX11_readsParity_20 h hF (isB_nar gB)
  · refine J_aload_n hX dX11_readsParity_21 rfl 0 rfl ?_
    obtain ⟨m1, h0, h⟩ := bd1_some h
    refine J_callVv (As := []) (st := []) hX dX11_readsParity_22 cw_RX11_223 (by omega) (c_X11_nextToken hn  h0) (ltn ltc_78 hn) lo_78 (by decide) rfl rfl rfl (Nat.le_of_ble_eq_true rfl) ?_
    clear h0
    refine J_aload_n hX dX11_readsParity_25 rfl 0 rfl ?_
    refine J_getR hX dX11_readsParity_26 fl_RX11_25 (ltn ltc_78 hn) lo_78 rfl (rt_78_14 _ _ _ _ _) ?_
    refine J_iconst hX (1 : Int32) dX11_readsParity_29 ic_1 ?_
    refine J_aload_n hX dX11_readsParity_30 rfl 0 rfl ?_
    refine J_getI hX dX11_readsParity_31 fl_RX11_191 (ltn ltc_78 hn) lo_78 rfl ?_
    refine J_iastore0 hX dX11_readsParity_34 (ltn ltc_84 hn) lay_84 (by decide) h (fun m2 h => ?_)
    refine J_aload_n hX dX11_readsParity_35 rfl 0 rfl ?_
    obtain ⟨r4, m3, h0, h⟩ := bd2_some h
    refine J_callVi (As := []) (st := []) hX dX11_readsParity_36 cw_RX11_258 (by omega) (c_X11_reads hn  h0) (ltn ltc_78 hn) lo_78 (by decide) rfl rfl rfl (Nat.le_of_ble_eq_true rfl) ?_
    clear h0
    refine J_if_ne hX 44 dX11_readsParity_39 (by decide) h (fun c h => ?_) (fun c h => ?_)
    · refine J_iconst hX (0 : Int32) dX11_readsParity_42 ic_0 ?_
      exact J_ireturn hX dX11_readsParity_43 h hF narrow_b0
    · refine J_aload_n hX dX11_readsParity_44 rfl 0 rfl ?_
      refine J_getR hX dX11_readsParity_45 fl_RX11_28 (ltn ltc_78 hn) lo_78 rfl (rt_78_15 _ _ _ _ _) ?_
      refine J_iconst hX (1 : Int32) dX11_readsParity_48 ic_1 ?_
      refine J_aload_n hX dX11_readsParity_49 rfl 0 rfl ?_
      refine J_getI hX dX11_readsParity_50 fl_RX11_191 (ltn ltc_78 hn) lo_78 rfl ?_
      refine J_iastore0 hX dX11_readsParity_53 (ltn ltc_85 hn) lay_85 (by decide) h (fun m5 h => ?_)
      refine J_iconst hX (1 : Int32) dX11_readsParity_54 ic_1 ?_
      exact J_ireturn hX dX11_readsParity_55 h hF narrow_b1
theorem c_X11_readsParity {G : GG} {l : Launch} {ρ : Nat → Nat} {n t u w v : Nat} {x : Option Nat} (hn : 126 ≤ n) {m : Mm} {rE : Int32} {mE : Mm} (h : f_X11_readsParity m = some (rE, mE)) : CT G l yX11_readsParity cX11_readsParity 1 (some .boolean) 3 0 0 ρ n (RT t u w v x) [.ref 78] m (some (.int rE)) (RT t u w v x) mE := ct_of_J (by decide) rfl (Nat.le_of_ble_eq_true rfl) (fun X hX e1 e2 e3 e4 hQ hr hl => t_X11_readsParity hX (Nat.le_refl _) hn ⟨by rw [hQ, e3, e4], hr, hl⟩ h)
theorem t_X11_readsSpeed {X : XX} {G : GG} {ρ : Nat → Nat} {n t u w v : Nat} {x : Option Nat} {d : Nat} (hX : Ok X G ρ cX11_readsSpeed 1 RX11 d) (hd0 : 3 ≤ d) (hn : 126 ≤ n) {rE : Int32} {mE : Mm} (hF : Fin' X G ρ n (some .boolean) (some (.int rE)) (RT t u w v x) mE) {m : Mm} (h : f_X11_readsSpeed m = some (rE, mE)) : J X G ρ n 1 0 [(0, .ref 78)] [] (RT t u w v x) m := by
  unfold f_X11_readsSpeed at h
  refine J_aload_n hX dX11_readsSpeed_0 rfl 0 rfl ?_
  refine J_getI hX dX11_readsSpeed_1 fl_RX11_254 (ltn ltc_78 hn) lo_78 rfl ?_
  refine J_if_eq hX 13 dX11_readsSpeed_4 (by decide) h (fun c h => ?_) (fun c h => ?_)
  · refine J_aload_n hX dX11_readsSpeed_13 rfl 0 rfl ?_
    refine J_iconst hX (1 : Int32) dX11_readsSpeed_14 ic_1 ?_
    refine J_putI hX dX11_readsSpeed_15 pl_RX11_254 (ltn ltc_78 hn) lo_78 rfl narrow_b1 rfl h (fun m1 h => ?_)
    refine J_aload_n hX dX11_readsSpeed_18 rfl 0 rfl ?_
    obtain ⟨m2, h0, h⟩ := bd1_some h
    refine J_callVv (As := []) (st := []) hX dX11_readsSpeed_19 cw_RX11_223 (by omega) (c_X11_nextToken hn  h0) (ltn ltc_78 hn) lo_78 (by decide) rfl rfl rfl (Nat.le_of_ble_eq_true rfl) ?_
    clear h0
    refine J_aload_n hX dX11_readsSpeed_22 rfl 0 rfl ?_
    refine J_iconst hX (1 : Int32) dX11_readsSpeed_23 ic_1 ?_
    refine J_bipush hX (9 : Int32) dX11_readsSpeed_24 (by decide) ?_
    obtain ⟨r4, m3, h0, h⟩ := bd2_some h
    refine J_callVi (As := [.int (1 : Int32), .int (9 : Int32)]) (st := []) hX dX11_readsSpeed_26 cw_RX11_246 (by omega) (c_X11_needsNumber hn  h0) (ltn ltc_78 hn) lo_78 (by decide) rfl rfl rfl (Nat.le_of_ble_eq_true rfl) ?_
    clear h0
    refine J_if_ne hX 34 dX11_readsSpeed_29 (by decide) h (fun c h => ?_) (fun c h => ?_)
    · refine J_iconst hX (0 : Int32) dX11_readsSpeed_32 ic_0 ?_
      exact J_ireturn hX dX11_readsSpeed_33 h hF narrow_b0
    · refine J_aload_n hX dX11_readsSpeed_34 rfl 0 rfl ?_
      refine J_getR hX dX11_readsSpeed_35 fl_RX11_13 (ltn ltc_78 hn) lo_78 rfl (rt_78_10 _ _ _ _ _) ?_
      refine J_iconst hX (5 : Int32) dX11_readsSpeed_38 ic_5 ?_
      refine J_aload_n hX dX11_readsSpeed_39 rfl 0 rfl ?_
      refine J_getI hX dX11_readsSpeed_40 fl_RX11_243 (ltn ltc_78 hn) lo_78 rfl ?_
      refine J_iastore0 hX dX11_readsSpeed_43 (ltn ltc_80 hn) lay_80 (by decide) h (fun m5 h => ?_)
      refine J_aload_n hX dX11_readsSpeed_44 rfl 0 rfl ?_
      obtain ⟨r7, m6, h0, h⟩ := bd2_some h
      refine J_callVi (As := []) (st := []) hX dX11_readsSpeed_45 cw_RX11_250 (by omega) (c_X11_closes hn  h0) (ltn ltc_78 hn) lo_78 (by decide) rfl rfl rfl (Nat.le_of_ble_eq_true rfl) ?_
      clear h0
      obtain ⟨gB, h⟩ := gd_some h
      exact J_ireturn hX dX11_readsSpeed_48 h hF (isB_nar gB)
  · refine J_aload_n hX dX11_readsSpeed_7 rfl 0 rfl ?_
    refine J_iconst hX (3 : Int32) dX11_readsSpeed_8 ic_3 ?_
    obtain ⟨r9, m8, h0, h⟩ := bd2_some h
    refine J_callVi (As := [.int (3 : Int32)]) (st := []) hX dX11_readsSpeed_9 cw_RX11_216 (by omega) (c_X11_fails hn  h0) (ltn ltc_78 hn) lo_78 (by decide) rfl rfl rfl (Nat.le_of_ble_eq_true rfl) ?_
    clear h0
    obtain ⟨gB, h⟩ := gd_some h
    exact J_ireturn hX dX11_readsSpeed_12 h hF (isB_nar gB)
theorem c_X11_readsSpeed {G : GG} {l : Launch} {ρ : Nat → Nat} {n t u w v : Nat} {x : Option Nat} (hn : 126 ≤ n) {m : Mm} {rE : Int32} {mE : Mm} (h : f_X11_readsSpeed m = some (rE, mE)) : CT G l yX11_readsSpeed cX11_readsSpeed 1 (some .boolean) 3 0 0 ρ n (RT t u w v x) [.ref 78] m (some (.int rE)) (RT t u w v x) mE := ct_of_J (by decide) rfl (Nat.le_of_ble_eq_true rfl) (fun X hX e1 e2 e3 e4 hQ hr hl => t_X11_readsSpeed hX (Nat.le_refl _) hn ⟨by rw [hQ, e3, e4], hr, hl⟩ h)
theorem t_X11_worked_J46 {X : XX} {G : GG} {ρ : Nat → Nat} {n t u w v : Nat} {x : Option Nat} {d : Nat} (hX : Ok X G ρ cX11_worked 6 RX11 d) (hd0 : 2 ≤ d) (hn : 126 ≤ n) {rE : Int32} {mE : Mm} (hF : Fin' X G ρ n (some .int) (some (.int rE)) (RT t u w v x) mE) {K14 : Int32 → Int32 → Int32 → Mm → Option (Int32 × Mm)} (v1 : Int32) (v2 : Int32) (v3 : Int32) (v4 : Int32) (hK14 : ∀ (w1 : Int32) (w2 : Int32) (w3 : Int32) (m : Mm), K14 w1 w2 w3 m = some (rE, mE) → J X G ρ n 6 14 [(0, .ref 78), (1, .int w1), (2, .int w2), (3, .int w3)] [] (RT t u w v x) m) (m : Mm) (h : f_X11_worked_J46 K14 v1 v2 v3 v4 m = some (rE, mE)) : J X G ρ n 6 46 [(0, .ref 78), (1, .int v1), (2, .int v2), (3, .int v3), (4, .int v4)] [] (RT t u w v x) m := by
  unfold f_X11_worked_J46 at h
  refine J_iinc hX (v2 + (1 : Int32)) [(2, .int (v2 + (1 : Int32))), (0, .ref 78), (1, .int v1), (3, .int v3), (4, .int v4)] dX11_worked_46 2 rfl (congrArg (fun z => v2 + z) ic_1) (by decide) rfl ?_
  refine J_aload_n hX dX11_worked_49 rfl 1 rfl ?_
  refine J_getR hX dX11_worked_50 fl_RX11_65 (ltn ltc_78 hn) lo_78 rfl (rt_78_29 _ _ _ _ _) ?_
  refine J_iload_n hX dX11_worked_53 rfl 0 rfl ?_
  refine J_iload hX dX11_worked_54 4 rfl ?_
  refine J_bipush hX (30 : Int32) dX11_worked_56 (by decide) ?_
  refine J_icmp_ne hX 65 dX11_worked_58 (by decide) h (fun c h => ?_) (fun c h => ?_)
  · refine J_iconst hX (1 : Int32) dX11_worked_61 ic_1 ?_
    refine J_goto hX 66 dX11_worked_62 (by decide) ?_
    refine J_iastore hX dX11_worked_66 (ltn ltc_97 hn) lay_97 h (fun m5 h => ?_)
    refine J_aload_n hX dX11_worked_67 rfl 1 rfl ?_
    refine J_iload_n hX dX11_worked_68 rfl 0 rfl ?_
    obtain ⟨m6, h0, h⟩ := bd1_some h
    refine J_callVv (As := [.int (v2 + (1 : Int32))]) (st := []) hX dX11_worked_69 cw_RX11_233 (by omega) (c_X11_opens hn  h0) (ltn ltc_78 hn) lo_78 (by decide) rfl rfl rfl (Nat.le_of_ble_eq_true rfl) ?_
    clear h0
    refine J_goto hX 329 dX11_worked_72 (by decide) ?_
    refine J_iinc hX (v3 + (1 : Int32)) [(3, .int (v3 + (1 : Int32))), (2, .int (v2 + (1 : Int32))), (0, .ref 78), (1, .int v1), (4, .int v4)] dX11_worked_329 3 rfl (congrArg (fun z => v3 + z) ic_1) (by decide) rfl ?_
    refine J_goto hX 14 dX11_worked_332 (by decide) ?_
    refine J_sub [(0, .ref 78), (1, .int v1), (2, .int (v2 + (1 : Int32))), (3, .int (v3 + (1 : Int32)))] [2, 3, 1, 0] rfl ?_
    exact hK14 v1 (v2 + (1 : Int32)) (v3 + (1 : Int32)) m6 h
  · refine J_iconst hX (0 : Int32) dX11_worked_65 ic_0 ?_
    refine J_iastore hX dX11_worked_66 (ltn ltc_97 hn) lay_97 h (fun m3 h => ?_)
    refine J_aload_n hX dX11_worked_67 rfl 1 rfl ?_
    refine J_iload_n hX dX11_worked_68 rfl 0 rfl ?_
    obtain ⟨m4, h0, h⟩ := bd1_some h
    refine J_callVv (As := [.int (v2 + (1 : Int32))]) (st := []) hX dX11_worked_69 cw_RX11_233 (by omega) (c_X11_opens hn  h0) (ltn ltc_78 hn) lo_78 (by decide) rfl rfl rfl (Nat.le_of_ble_eq_true rfl) ?_
    clear h0
    refine J_goto hX 329 dX11_worked_72 (by decide) ?_
    refine J_iinc hX (v3 + (1 : Int32)) [(3, .int (v3 + (1 : Int32))), (2, .int (v2 + (1 : Int32))), (0, .ref 78), (1, .int v1), (4, .int v4)] dX11_worked_329 3 rfl (congrArg (fun z => v3 + z) ic_1) (by decide) rfl ?_
    refine J_goto hX 14 dX11_worked_332 (by decide) ?_
    refine J_sub [(0, .ref 78), (1, .int v1), (2, .int (v2 + (1 : Int32))), (3, .int (v3 + (1 : Int32)))] [2, 3, 1, 0] rfl ?_
    exact hK14 v1 (v2 + (1 : Int32)) (v3 + (1 : Int32)) m4 h
theorem t_X11_worked_J89 {X : XX} {G : GG} {ρ : Nat → Nat} {n t u w v : Nat} {x : Option Nat} {d : Nat} (hX : Ok X G ρ cX11_worked 6 RX11 d) (hd0 : 2 ≤ d) (hn : 126 ≤ n) {rE : Int32} {mE : Mm} (hF : Fin' X G ρ n (some .int) (some (.int rE)) (RT t u w v x) mE) {K14 : Int32 → Int32 → Int32 → Mm → Option (Int32 × Mm)} (v1 : Int32) (v2 : Int32) (v3 : Int32) (v4 : Int32) (hK14 : ∀ (w1 : Int32) (w2 : Int32) (w3 : Int32) (m : Mm), K14 w1 w2 w3 m = some (rE, mE) → J X G ρ n 6 14 [(0, .ref 78), (1, .int w1), (2, .int w2), (3, .int w3)] [] (RT t u w v x) m) (m : Mm) (h : f_X11_worked_J89 K14 v1 v2 v3 v4 m = some (rE, mE)) : J X G ρ n 6 89 [(0, .ref 78), (1, .int v1), (2, .int v2), (3, .int v3), (4, .int v4)] [] (RT t u w v x) m := by
  unfold f_X11_worked_J89 at h
  refine J_aload_n hX dX11_worked_89 rfl 0 rfl ?_
  refine J_iload_n hX dX11_worked_90 rfl 2 rfl ?_
  obtain ⟨m7, h0, h⟩ := bd1_some h
  refine J_callVv (As := [.int v2]) (st := []) hX dX11_worked_91 cw_RX11_230 (by omega) (c_X11_sums hn  h0) (ltn ltc_78 hn) lo_78 (by decide) rfl rfl rfl (Nat.le_of_ble_eq_true rfl) ?_
  clear h0
  refine J_aload_n hX dX11_worked_94 rfl 0 rfl ?_
  refine J_getR hX dX11_worked_95 fl_RX11_56 (ltn ltc_78 hn) lo_78 rfl (rt_78_26 _ _ _ _ _) ?_
  refine J_iload_n hX dX11_worked_98 rfl 2 rfl ?_
  refine J_iload hX dX11_worked_99 4 rfl ?_
  refine J_iastore hX dX11_worked_101 (ltn ltc_94 hn) lay_94 h (fun m8 h => ?_)
  refine J_goto hX 329 dX11_worked_102 (by decide) ?_
  refine J_iinc hX (v3 + (1 : Int32)) [(3, .int (v3 + (1 : Int32))), (0, .ref 78), (1, .int v1), (2, .int v2), (4, .int v4)] dX11_worked_329 3 rfl (congrArg (fun z => v3 + z) ic_1) (by decide) rfl ?_
  refine J_goto hX 14 dX11_worked_332 (by decide) ?_
  refine J_sub [(0, .ref 78), (1, .int v1), (2, .int v2), (3, .int (v3 + (1 : Int32)))] [1, 2, 3, 0] rfl ?_
  exact hK14 v1 v2 (v3 + (1 : Int32)) m8 h
theorem t_X11_worked_J137 {X : XX} {G : GG} {ρ : Nat → Nat} {n t u w v : Nat} {x : Option Nat} {d : Nat} (hX : Ok X G ρ cX11_worked 6 RX11 d) (hd0 : 2 ≤ d) (hn : 126 ≤ n) {rE : Int32} {mE : Mm} (hF : Fin' X G ρ n (some .int) (some (.int rE)) (RT t u w v x) mE) {K14 : Int32 → Int32 → Int32 → Mm → Option (Int32 × Mm)} (v1 : Int32) (v2 : Int32) (v3 : Int32) (v4 : Int32) (hK14 : ∀ (w1 : Int32) (w2 : Int32) (w3 : Int32) (m : Mm), K14 w1 w2 w3 m = some (rE, mE) → J X G ρ n 6 14 [(0, .ref 78), (1, .int w1), (2, .int w2), (3, .int w3)] [] (RT t u w v x) m) (m : Mm) (h : f_X11_worked_J137 K14 v1 v2 v3 v4 m = some (rE, mE)) : J X G ρ n 6 137 [(0, .ref 78), (1, .int v1), (2, .int v2), (3, .int v3), (4, .int v4)] [] (RT t u w v x) m := by
  unfold f_X11_worked_J137 at h
  refine J_aload_n hX dX11_worked_137 rfl 0 rfl ?_
  refine J_iload_n hX dX11_worked_138 rfl 2 rfl ?_
  obtain ⟨m9, h0, h⟩ := bd1_some h
  refine J_callVv (As := [.int v2]) (st := []) hX dX11_worked_139 cw_RX11_230 (by omega) (c_X11_sums hn  h0) (ltn ltc_78 hn) lo_78 (by decide) rfl rfl rfl (Nat.le_of_ble_eq_true rfl) ?_
  clear h0
  refine J_aload_n hX dX11_worked_142 rfl 0 rfl ?_
  refine J_getR hX dX11_worked_143 fl_RX11_47 (ltn ltc_78 hn) lo_78 rfl (rt_78_23 _ _ _ _ _) ?_
  refine J_iload_n hX dX11_worked_146 rfl 2 rfl ?_
  refine J_aload_n hX dX11_worked_147 rfl 0 rfl ?_
  refine J_getR hX dX11_worked_148 fl_RX11_53 (ltn ltc_78 hn) lo_78 rfl (rt_78_25 _ _ _ _ _) ?_
  refine J_iload_n hX dX11_worked_151 rfl 2 rfl ?_
  refine J_iaload hX dX11_worked_152 (ltn ltc_93 hn) lay_93 h (fun h => ?_)
  refine J_iastore hX dX11_worked_153 (ltn ltc_91 hn) lay_91 h (fun m10 h => ?_)
  refine J_aload_n hX dX11_worked_154 rfl 0 rfl ?_
  refine J_getR hX dX11_worked_155 fl_RX11_50 (ltn ltc_78 hn) lo_78 rfl (rt_78_24 _ _ _ _ _) ?_
  refine J_iload_n hX dX11_worked_158 rfl 2 rfl ?_
  refine J_iload hX dX11_worked_159 4 rfl ?_
  refine J_iastore hX dX11_worked_161 (ltn ltc_92 hn) lay_92 h (fun m11 h => ?_)
  refine J_aload_n hX dX11_worked_162 rfl 0 rfl ?_
  refine J_getR hX dX11_worked_163 fl_RX11_53 (ltn ltc_78 hn) lo_78 rfl (rt_78_25 _ _ _ _ _) ?_
  refine J_iload_n hX dX11_worked_166 rfl 2 rfl ?_
  refine J_iconst hX (0 : Int32) dX11_worked_167 ic_0 ?_
  refine J_iastore hX dX11_worked_168 (ltn ltc_93 hn) lay_93 h (fun m12 h => ?_)
  refine J_aload_n hX dX11_worked_169 rfl 0 rfl ?_
  refine J_getR hX dX11_worked_170 fl_RX11_56 (ltn ltc_78 hn) lo_78 rfl (rt_78_26 _ _ _ _ _) ?_
  refine J_iload_n hX dX11_worked_173 rfl 2 rfl ?_
  refine J_bipush hX (20 : Int32) dX11_worked_174 (by decide) ?_
  refine J_iastore hX dX11_worked_176 (ltn ltc_94 hn) lay_94 h (fun m13 h => ?_)
  refine J_goto hX 329 dX11_worked_177 (by decide) ?_
  refine J_iinc hX (v3 + (1 : Int32)) [(3, .int (v3 + (1 : Int32))), (0, .ref 78), (1, .int v1), (2, .int v2), (4, .int v4)] dX11_worked_329 3 rfl (congrArg (fun z => v3 + z) ic_1) (by decide) rfl ?_
  refine J_goto hX 14 dX11_worked_332 (by decide) ?_
  refine J_sub [(0, .ref 78), (1, .int v1), (2, .int v2), (3, .int (v3 + (1 : Int32)))] [1, 2, 3, 0] rfl ?_
  exact hK14 v1 v2 (v3 + (1 : Int32)) m13 h
theorem t_X11_worked_J194 {X : XX} {G : GG} {ρ : Nat → Nat} {n t u w v : Nat} {x : Option Nat} {d : Nat} (hX : Ok X G ρ cX11_worked 6 RX11 d) (hd0 : 2 ≤ d) (hn : 126 ≤ n) {rE : Int32} {mE : Mm} (hF : Fin' X G ρ n (some .int) (some (.int rE)) (RT t u w v x) mE) {K14 : Int32 → Int32 → Int32 → Mm → Option (Int32 × Mm)} (v1 : Int32) (v2 : Int32) (v3 : Int32) (v4 : Int32) (hK14 : ∀ (w1 : Int32) (w2 : Int32) (w3 : Int32) (m : Mm), K14 w1 w2 w3 m = some (rE, mE) → J X G ρ n 6 14 [(0, .ref 78), (1, .int w1), (2, .int w2), (3, .int w3)] [] (RT t u w v x) m) (m : Mm) (h : f_X11_worked_J194 K14 v1 v2 v3 v4 m = some (rE, mE)) : J X G ρ n 6 194 [(0, .ref 78), (1, .int v1), (2, .int v2), (3, .int v3), (4, .int v4)] [] (RT t u w v x) m := by
  unfold f_X11_worked_J194 at h
  refine J_aload_n hX dX11_worked_194 rfl 0 rfl ?_
  refine J_iload_n hX dX11_worked_195 rfl 2 rfl ?_
  obtain ⟨m14, h0, h⟩ := bd1_some h
  refine J_callVv (As := [.int v2]) (st := []) hX dX11_worked_196 cw_RX11_236 (by omega) (c_X11_tests hn  h0) (ltn ltc_78 hn) lo_78 (by decide) rfl rfl rfl (Nat.le_of_ble_eq_true rfl) ?_
  clear h0
  refine J_aload_n hX dX11_worked_199 rfl 0 rfl ?_
  refine J_getR hX dX11_worked_200 fl_RX11_44 (ltn ltc_78 hn) lo_78 rfl (rt_78_22 _ _ _ _ _) ?_
  refine J_iload_n hX dX11_worked_203 rfl 2 rfl ?_
  refine J_iload hX dX11_worked_204 4 rfl ?_
  refine J_iastore hX dX11_worked_206 (ltn ltc_90 hn) lay_90 h (fun m15 h => ?_)
  refine J_goto hX 329 dX11_worked_207 (by decide) ?_
  refine J_iinc hX (v3 + (1 : Int32)) [(3, .int (v3 + (1 : Int32))), (0, .ref 78), (1, .int v1), (2, .int v2), (4, .int v4)] dX11_worked_329 3 rfl (congrArg (fun z => v3 + z) ic_1) (by decide) rfl ?_
  refine J_goto hX 14 dX11_worked_332 (by decide) ?_
  refine J_sub [(0, .ref 78), (1, .int v1), (2, .int v2), (3, .int (v3 + (1 : Int32)))] [1, 2, 3, 0] rfl ?_
  exact hK14 v1 v2 (v3 + (1 : Int32)) m15 h
theorem t_X11_worked_L268 {X : XX} {G : GG} {ρ : Nat → Nat} {n t u w v : Nat} {x : Option Nat} {d : Nat} (hX : Ok X G ρ cX11_worked 6 RX11 d) (hd0 : 2 ≤ d) (hn : 126 ≤ n) {rE : Int32} {mE : Mm} (hF : Fin' X G ρ n (some .int) (some (.int rE)) (RT t u w v x) mE) {v1 : Int32} {v3 : Int32} {K : Int32 → Int32 → Mm → Option (Int32 × Mm)} (hK : ∀ (w2 : Int32) (w5 : Int32) (m : Mm), K w2 w5 m = some (rE, mE) → J X G ρ n 6 300 [(0, .ref 78), (1, .int v1), (2, .int w2), (3, .int v3), (5, .int w5)] [] (RT t u w v x) m) : ∀ (k : Nat) (v2 : Int32) (v5 : Int32) (m : Mm), f_X11_worked_L268 v1 v3 K k v2 v5 m = some (rE, mE) → J X G ρ n 6 268 [(0, .ref 78), (1, .int v1), (2, .int v2), (3, .int v3), (5, .int v5)] [] (RT t u w v x) m := by
  intro k
  induction k with
  | zero => intro _ _ _ h; rw [f_X11_worked_L268] at h; cases h
  | succ k ih =>
    intro v2 v5 m h
    rw [f_X11_worked_L268] at h
    refine J_iload_n hX dX11_worked_268 rfl 2 rfl ?_
    refine J_if_le hX 300 dX11_worked_269 (by decide) h (fun c h => ?_) (fun c h => ?_)
    · refine J_aload_n hX dX11_worked_272 rfl 0 rfl ?_
      refine J_getR hX dX11_worked_273 fl_RX11_65 (ltn ltc_78 hn) lo_78 rfl (rt_78_29 _ _ _ _ _) ?_
      refine J_iload_n hX dX11_worked_276 rfl 2 rfl ?_
      refine J_iaload hX dX11_worked_277 (ltn ltc_97 hn) lay_97 h (fun h => ?_)
      refine J_iconst hX (1 : Int32) dX11_worked_278 ic_1 ?_
      refine J_icmp_ne hX 300 dX11_worked_279 (by decide) h (fun c h => ?_) (fun c h => ?_)
      · refine J_iload hX dX11_worked_282 4 rfl ?_
        refine J_if_ne hX 291 dX11_worked_284 (by decide) h (fun c h => ?_) (fun c h => ?_)
        · refine J_iconst hX (1 : Int32) dX11_worked_287 ic_1 ?_
          refine J_goto hX 292 dX11_worked_288 (by decide) ?_
          refine J_istore hX [(5, .int (1 : Int32)), (0, .ref 78), (1, .int v1), (2, .int v2), (3, .int v3)] dX11_worked_292 (by decide) rfl ?_
          refine J_iinc hX (v2 + (-1 : Int32)) [(2, .int (v2 + (-1 : Int32))), (5, .int (1 : Int32)), (0, .ref 78), (1, .int v1), (3, .int v3)] dX11_worked_294 3 rfl (congrArg (fun z => v2 + z) ic_m1) (by decide) rfl ?_
          refine J_goto hX 268 dX11_worked_297 (by decide) ?_
          refine J_sub [(0, .ref 78), (1, .int v1), (2, .int (v2 + (-1 : Int32))), (3, .int v3), (5, .int (1 : Int32))] [2, 3, 0, 4, 1] rfl ?_
          exact ih (v2 + (-1 : Int32)) (1 : Int32) m h
        · refine J_iconst hX (0 : Int32) dX11_worked_291 ic_0 ?_
          refine J_istore hX [(5, .int (0 : Int32)), (0, .ref 78), (1, .int v1), (2, .int v2), (3, .int v3)] dX11_worked_292 (by decide) rfl ?_
          refine J_iinc hX (v2 + (-1 : Int32)) [(2, .int (v2 + (-1 : Int32))), (5, .int (0 : Int32)), (0, .ref 78), (1, .int v1), (3, .int v3)] dX11_worked_294 3 rfl (congrArg (fun z => v2 + z) ic_m1) (by decide) rfl ?_
          refine J_goto hX 268 dX11_worked_297 (by decide) ?_
          refine J_sub [(0, .ref 78), (1, .int v1), (2, .int (v2 + (-1 : Int32))), (3, .int v3), (5, .int (0 : Int32))] [2, 3, 0, 4, 1] rfl ?_
          exact ih (v2 + (-1 : Int32)) (0 : Int32) m h
      · exact hK v2 v5 m h
    · exact hK v2 v5 m h
theorem t_X11_worked_J300 {X : XX} {G : GG} {ρ : Nat → Nat} {n t u w v : Nat} {x : Option Nat} {d : Nat} (hX : Ok X G ρ cX11_worked 6 RX11 d) (hd0 : 2 ≤ d) (hn : 126 ≤ n) {rE : Int32} {mE : Mm} (hF : Fin' X G ρ n (some .int) (some (.int rE)) (RT t u w v x) mE) {K14 : Int32 → Int32 → Int32 → Mm → Option (Int32 × Mm)} (v1 : Int32) (v2 : Int32) (v3 : Int32) (v5 : Int32) (hK14 : ∀ (w1 : Int32) (w2 : Int32) (w3 : Int32) (m : Mm), K14 w1 w2 w3 m = some (rE, mE) → J X G ρ n 6 14 [(0, .ref 78), (1, .int w1), (2, .int w2), (3, .int w3)] [] (RT t u w v x) m) (m : Mm) (h : f_X11_worked_J300 K14 v1 v2 v3 v5 m = some (rE, mE)) : J X G ρ n 6 300 [(0, .ref 78), (1, .int v1), (2, .int v2), (3, .int v3), (5, .int v5)] [] (RT t u w v x) m := by
  unfold f_X11_worked_J300 at h
  refine J_aload_n hX dX11_worked_300 rfl 0 rfl ?_
  refine J_getR hX dX11_worked_301 fl_RX11_59 (ltn ltc_78 hn) lo_78 rfl (rt_78_27 _ _ _ _ _) ?_
  refine J_iload_n hX dX11_worked_304 rfl 2 rfl ?_
  refine J_aload_n hX dX11_worked_305 rfl 0 rfl ?_
  refine J_getR hX dX11_worked_306 fl_RX11_62 (ltn ltc_78 hn) lo_78 rfl (rt_78_28 _ _ _ _ _) ?_
  refine J_iload_n hX dX11_worked_309 rfl 2 rfl ?_
  refine J_iaload hX dX11_worked_310 (ltn ltc_96 hn) lay_96 h (fun h => ?_)
  refine J_if_ne hX 319 dX11_worked_311 (by decide) h (fun c h => ?_) (fun c h => ?_)
  · refine J_iload hX dX11_worked_314 4 rfl ?_
    refine J_goto hX 328 dX11_worked_316 (by decide) ?_
    refine J_iastore hX dX11_worked_328 (ltn ltc_95 hn) lay_95 h (fun m20 h => ?_)
    refine J_iinc hX (v3 + (1 : Int32)) [(3, .int (v3 + (1 : Int32))), (0, .ref 78), (1, .int v1), (2, .int v2), (5, .int v5)] dX11_worked_329 3 rfl (congrArg (fun z => v3 + z) ic_1) (by decide) rfl ?_
    refine J_goto hX 14 dX11_worked_332 (by decide) ?_
    refine J_sub [(0, .ref 78), (1, .int v1), (2, .int v2), (3, .int (v3 + (1 : Int32)))] [1, 2, 3, 0] rfl ?_
    exact hK14 v1 v2 (v3 + (1 : Int32)) m20 h
  · refine J_aload_n hX dX11_worked_319 rfl 0 rfl ?_
    refine J_getR hX dX11_worked_320 fl_RX11_59 (ltn ltc_78 hn) lo_78 rfl (rt_78_27 _ _ _ _ _) ?_
    refine J_iload_n hX dX11_worked_323 rfl 2 rfl ?_
    refine J_iaload hX dX11_worked_324 (ltn ltc_95 hn) lay_95 h (fun h => ?_)
    refine J_iload hX dX11_worked_325 4 rfl ?_
    refine J_imul hX dX11_worked_327 ?_
    refine J_iastore hX dX11_worked_328 (ltn ltc_95 hn) lay_95 h (fun m19 h => ?_)
    refine J_iinc hX (v3 + (1 : Int32)) [(3, .int (v3 + (1 : Int32))), (0, .ref 78), (1, .int v1), (2, .int v2), (5, .int v5)] dX11_worked_329 3 rfl (congrArg (fun z => v3 + z) ic_1) (by decide) rfl ?_
    refine J_goto hX 14 dX11_worked_332 (by decide) ?_
    refine J_sub [(0, .ref 78), (1, .int v1), (2, .int v2), (3, .int (v3 + (1 : Int32)))] [1, 2, 3, 0] rfl ?_
    exact hK14 v1 v2 (v3 + (1 : Int32)) m19 h
theorem t_X11_worked_J243 {X : XX} {G : GG} {ρ : Nat → Nat} {n t u w v : Nat} {x : Option Nat} {d : Nat} (hX : Ok X G ρ cX11_worked 6 RX11 d) (hd0 : 2 ≤ d) (hn : 126 ≤ n) {rE : Int32} {mE : Mm} (hF : Fin' X G ρ n (some .int) (some (.int rE)) (RT t u w v x) mE) {K14 : Int32 → Int32 → Int32 → Mm → Option (Int32 × Mm)} (v1 : Int32) (v2 : Int32) (v3 : Int32) (v4 : Int32) (s0 : Int32) (hK14 : ∀ (w1 : Int32) (w2 : Int32) (w3 : Int32) (m : Mm), K14 w1 w2 w3 m = some (rE, mE) → J X G ρ n 6 14 [(0, .ref 78), (1, .int w1), (2, .int w2), (3, .int w3)] [] (RT t u w v x) m) (m : Mm) (h : f_X11_worked_J243 K14 v1 v2 v3 v4 s0 m = some (rE, mE)) : J X G ρ n 6 243 [(0, .ref 78), (1, .int v1), (2, .int v2), (3, .int v3), (4, .int v4)] [.int s0] (RT t u w v x) m := by
  unfold f_X11_worked_J243 at h
  refine J_istore hX [(5, .int s0), (0, .ref 78), (1, .int v1), (2, .int v2), (3, .int v3), (4, .int v4)] dX11_worked_243 (by decide) rfl ?_
  refine J_iload hX dX11_worked_245 5 rfl ?_
  refine J_bipush hX (29 : Int32) dX11_worked_247 (by decide) ?_
  refine J_icmp_ne hX 268 dX11_worked_249 (by decide) h (fun c h => ?_) (fun c h => ?_)
  · refine J_aload_n hX dX11_worked_252 rfl 1 rfl ?_
    refine J_iload_n hX dX11_worked_253 rfl 3 rfl ?_
    obtain ⟨m21, h0, h⟩ := bd1_some h
    refine J_callVv (As := [.int v2]) (st := []) hX dX11_worked_254 cw_RX11_236 (by omega) (c_X11_tests hn  h0) (ltn ltc_78 hn) lo_78 (by decide) rfl rfl rfl (Nat.le_of_ble_eq_true rfl) ?_
    clear h0
    refine J_aload_n hX dX11_worked_257 rfl 1 rfl ?_
    refine J_getR hX dX11_worked_258 fl_RX11_41 (ltn ltc_78 hn) lo_78 rfl (rt_78_21 _ _ _ _ _) ?_
    refine J_iload_n hX dX11_worked_261 rfl 3 rfl ?_
    refine J_iaload hX dX11_worked_262 (ltn ltc_89 hn) lay_89 h (fun h => ?_)
    refine J_istore hX [(5, .int (gI m21 89 (ix v2))), (0, .ref 78), (1, .int v1), (2, .int v2), (3, .int v3), (4, .int v4)] dX11_worked_263 (by decide) rfl ?_
    refine J_iinc hX (v2 + (-1 : Int32)) [(2, .int (v2 + (-1 : Int32))), (5, .int (gI m21 89 (ix v2))), (0, .ref 78), (1, .int v1), (3, .int v3), (4, .int v4)] dX11_worked_265 3 rfl (congrArg (fun z => v2 + z) ic_m1) (by decide) rfl ?_
    refine J_sub [(0, .ref 78), (1, .int v1), (2, .int (v2 + (-1 : Int32))), (3, .int v3), (5, .int (gI m21 89 (ix v2)))] [2, 3, 0, 4, 1] rfl ?_
    refine t_X11_worked_L268 hX hd0 hn hF (fun w22 w23 m24 h => ?_) FU (v2 + (-1 : Int32)) (gI m21 89 (ix v2)) m21 h
    exact t_X11_worked_J300 hX hd0 hn hF v1 w22 v3 w23 hK14 m24 h
  · refine J_sub [(0, .ref 78), (1, .int v1), (2, .int v2), (3, .int v3), (5, .int s0)] [1, 2, 3, 4, 0] rfl ?_
    refine t_X11_worked_L268 hX hd0 hn hF (fun w16 w17 m18 h => ?_) FU v2 s0 m h
    exact t_X11_worked_J300 hX hd0 hn hF v1 w16 v3 w17 hK14 m18 h
theorem t_X11_worked_L14 {X : XX} {G : GG} {ρ : Nat → Nat} {n t u w v : Nat} {x : Option Nat} {d : Nat} (hX : Ok X G ρ cX11_worked 6 RX11 d) (hd0 : 2 ≤ d) (hn : 126 ≤ n) {rE : Int32} {mE : Mm} (hF : Fin' X G ρ n (some .int) (some (.int rE)) (RT t u w v x) mE) : ∀ (k : Nat) (v1 : Int32) (v2 : Int32) (v3 : Int32) (m : Mm), f_X11_worked_L14 k v1 v2 v3 m = some (rE, mE) → J X G ρ n 6 14 [(0, .ref 78), (1, .int v1), (2, .int v2), (3, .int v3)] [] (RT t u w v x) m := by
  intro k
  induction k with
  | zero => intro _ _ _ _ h; rw [f_X11_worked_L14] at h; cases h
  | succ k ih =>
    intro v1 v2 v3 m h
    rw [f_X11_worked_L14] at h
    refine J_iload_n hX dX11_worked_14 rfl 3 rfl ?_
    refine J_aload_n hX dX11_worked_15 rfl 0 rfl ?_
    refine J_getR hX dX11_worked_16 fl_RX11_28 (ltn ltc_78 hn) lo_78 rfl (rt_78_15 _ _ _ _ _) ?_
    refine J_iload_n hX dX11_worked_19 rfl 1 rfl ?_
    refine J_iaload hX dX11_worked_20 (ltn ltc_85 hn) lay_85 h (fun h => ?_)
    refine J_icmp_ge hX 335 dX11_worked_21 (by decide) h (fun c h => ?_) (fun c h => ?_)
    · refine J_aload_n hX dX11_worked_24 rfl 0 rfl ?_
      refine J_getR hX dX11_worked_25 fl_RX11_31 (ltn ltc_78 hn) lo_78 rfl (rt_78_16 _ _ _ _ _) ?_
      refine J_iload_n hX dX11_worked_28 rfl 3 rfl ?_
      refine J_iaload hX dX11_worked_29 (ltn ltc_86 hn) lay_86 h (fun h => ?_)
      refine J_istore hX [(4, .int (gI m 86 (ix v3))), (0, .ref 78), (1, .int v1), (2, .int v2), (3, .int v3)] dX11_worked_30 (by decide) rfl ?_
      refine J_iload hX dX11_worked_32 0 rfl ?_
      refine J_bipush hX (28 : Int32) dX11_worked_34 (by decide) ?_
      refine J_icmp_eq hX 46 dX11_worked_36 (by decide) h (fun c h => ?_) (fun c h => ?_)
      · refine J_sub [(0, .ref 78), (1, .int v1), (2, .int v2), (3, .int v3), (4, .int (gI m 86 (ix v3)))] [1, 2, 3, 4, 0] rfl ?_
        exact t_X11_worked_J46 hX hd0 hn hF v1 v2 v3 (gI m 86 (ix v3)) (fun w1 w2 w3 m h => ih w1 w2 w3 m h) m h
      · refine J_iload hX dX11_worked_39 0 rfl ?_
        refine J_bipush hX (30 : Int32) dX11_worked_41 (by decide) ?_
        refine J_icmp_ne hX 75 dX11_worked_43 (by decide) h (fun c h => ?_) (fun c h => ?_)
        · refine J_sub [(0, .ref 78), (1, .int v1), (2, .int v2), (3, .int v3), (4, .int (gI m 86 (ix v3)))] [1, 2, 3, 4, 0] rfl ?_
          exact t_X11_worked_J46 hX hd0 hn hF v1 v2 v3 (gI m 86 (ix v3)) (fun w1 w2 w3 m h => ih w1 w2 w3 m h) m h
        · refine J_iload hX dX11_worked_75 0 rfl ?_
          refine J_bipush hX (20 : Int32) dX11_worked_77 (by decide) ?_
          refine J_icmp_eq hX 89 dX11_worked_79 (by decide) h (fun c h => ?_) (fun c h => ?_)
          · refine J_sub [(0, .ref 78), (1, .int v1), (2, .int v2), (3, .int v3), (4, .int (gI m 86 (ix v3)))] [1, 2, 3, 4, 0] rfl ?_
            exact t_X11_worked_J89 hX hd0 hn hF v1 v2 v3 (gI m 86 (ix v3)) (fun w1 w2 w3 m h => ih w1 w2 w3 m h) m h
          · refine J_iload hX dX11_worked_82 0 rfl ?_
            refine J_bipush hX (21 : Int32) dX11_worked_84 (by decide) ?_
            refine J_icmp_ne hX 105 dX11_worked_86 (by decide) h (fun c h => ?_) (fun c h => ?_)
            · refine J_sub [(0, .ref 78), (1, .int v1), (2, .int v2), (3, .int v3), (4, .int (gI m 86 (ix v3)))] [1, 2, 3, 4, 0] rfl ?_
              exact t_X11_worked_J89 hX hd0 hn hF v1 v2 v3 (gI m 86 (ix v3)) (fun w1 w2 w3 m h => ih w1 w2 w3 m h) m h
            · refine J_iload hX dX11_worked_105 0 rfl ?_
              refine J_bipush hX (22 : Int32) dX11_worked_107 (by decide) ?_
              refine J_icmp_ne hX 123 dX11_worked_109 (by decide) h (fun c h => ?_) (fun c h => ?_)
              · refine J_aload_n hX dX11_worked_112 rfl 1 rfl ?_
                refine J_getR hX dX11_worked_113 fl_RX11_62 (ltn ltc_78 hn) lo_78 rfl (rt_78_28 _ _ _ _ _) ?_
                refine J_iload_n hX dX11_worked_116 rfl 3 rfl ?_
                refine J_iload hX dX11_worked_117 0 rfl ?_
                refine J_iastore hX dX11_worked_119 (ltn ltc_96 hn) lay_96 h (fun m25 h => ?_)
                refine J_goto hX 329 dX11_worked_120 (by decide) ?_
                refine J_iinc hX (v3 + (1 : Int32)) [(3, .int (v3 + (1 : Int32))), (4, .int (gI m 86 (ix v3))), (0, .ref 78), (1, .int v1), (2, .int v2)] dX11_worked_329 4 rfl (congrArg (fun z => v3 + z) ic_1) (by decide) rfl ?_
                refine J_goto hX 14 dX11_worked_332 (by decide) ?_
                refine J_sub [(0, .ref 78), (1, .int v1), (2, .int v2), (3, .int (v3 + (1 : Int32)))] [2, 3, 4, 0] rfl ?_
                exact ih v1 v2 (v3 + (1 : Int32)) m25 h
              · refine J_iload hX dX11_worked_123 0 rfl ?_
                refine J_bipush hX (24 : Int32) dX11_worked_125 (by decide) ?_
                refine J_icmp_eq hX 137 dX11_worked_127 (by decide) h (fun c h => ?_) (fun c h => ?_)
                · refine J_sub [(0, .ref 78), (1, .int v1), (2, .int v2), (3, .int v3), (4, .int (gI m 86 (ix v3)))] [1, 2, 3, 4, 0] rfl ?_
                  exact t_X11_worked_J137 hX hd0 hn hF v1 v2 v3 (gI m 86 (ix v3)) (fun w1 w2 w3 m h => ih w1 w2 w3 m h) m h
                · refine J_iload hX dX11_worked_130 0 rfl ?_
                  refine J_bipush hX (25 : Int32) dX11_worked_132 (by decide) ?_
                  refine J_icmp_ne hX 180 dX11_worked_134 (by decide) h (fun c h => ?_) (fun c h => ?_)
                  · refine J_sub [(0, .ref 78), (1, .int v1), (2, .int v2), (3, .int v3), (4, .int (gI m 86 (ix v3)))] [1, 2, 3, 4, 0] rfl ?_
                    exact t_X11_worked_J137 hX hd0 hn hF v1 v2 v3 (gI m 86 (ix v3)) (fun w1 w2 w3 m h => ih w1 w2 w3 m h) m h
                  · refine J_iload hX dX11_worked_180 0 rfl ?_
                    refine J_bipush hX (26 : Int32) dX11_worked_182 (by decide) ?_
                    refine J_icmp_eq hX 194 dX11_worked_184 (by decide) h (fun c h => ?_) (fun c h => ?_)
                    · refine J_sub [(0, .ref 78), (1, .int v1), (2, .int v2), (3, .int v3), (4, .int (gI m 86 (ix v3)))] [1, 2, 3, 4, 0] rfl ?_
                      exact t_X11_worked_J194 hX hd0 hn hF v1 v2 v3 (gI m 86 (ix v3)) (fun w1 w2 w3 m h => ih w1 w2 w3 m h) m h
                    · refine J_iload hX dX11_worked_187 0 rfl ?_
                      refine J_bipush hX (27 : Int32) dX11_worked_189 (by decide) ?_
                      refine J_icmp_ne hX 210 dX11_worked_191 (by decide) h (fun c h => ?_) (fun c h => ?_)
                      · refine J_sub [(0, .ref 78), (1, .int v1), (2, .int v2), (3, .int v3), (4, .int (gI m 86 (ix v3)))] [1, 2, 3, 4, 0] rfl ?_
                        exact t_X11_worked_J194 hX hd0 hn hF v1 v2 v3 (gI m 86 (ix v3)) (fun w1 w2 w3 m h => ih w1 w2 w3 m h) m h
                      · refine J_iload hX dX11_worked_210 0 rfl ?_
                        refine J_bipush hX (100 : Int32) dX11_worked_212 (by decide) ?_
                        refine J_icmp_lt hX 225 dX11_worked_214 (by decide) h (fun c h => ?_) (fun c h => ?_)
                        · refine J_iload hX dX11_worked_225 0 rfl ?_
                          refine J_bipush hX (20 : Int32) dX11_worked_227 (by decide) ?_
                          refine J_icmp_ge hX 242 dX11_worked_229 (by decide) h (fun c h => ?_) (fun c h => ?_)
                          · refine J_aload_n hX dX11_worked_232 rfl 1 rfl ?_
                            refine J_getR hX dX11_worked_233 fl_RX11_68 (ltn ltc_78 hn) lo_78 rfl (rt_78_30 _ _ _ _ _) ?_
                            refine J_iload hX dX11_worked_236 0 rfl ?_
                            refine J_iaload hX dX11_worked_238 (ltn ltc_98 hn) lay_98 h (fun h => ?_)
                            refine J_goto hX 243 dX11_worked_239 (by decide) ?_
                            refine J_sub [(0, .ref 78), (1, .int v1), (2, .int v2), (3, .int v3), (4, .int (gI m 86 (ix v3)))] [1, 2, 3, 4, 0] rfl ?_
                            exact t_X11_worked_J243 hX hd0 hn hF v1 v2 v3 (gI m 86 (ix v3)) (gI m 98 (ix (gI m 86 (ix v3)))) (fun w1 w2 w3 m h => ih w1 w2 w3 m h) m h
                          · refine J_iconst hX (0 : Int32) dX11_worked_242 ic_0 ?_
                            refine J_sub [(0, .ref 78), (1, .int v1), (2, .int v2), (3, .int v3), (4, .int (gI m 86 (ix v3)))] [1, 2, 3, 4, 0] rfl ?_
                            exact t_X11_worked_J243 hX hd0 hn hF v1 v2 v3 (gI m 86 (ix v3)) (0 : Int32) (fun w1 w2 w3 m h => ih w1 w2 w3 m h) m h
                        · refine J_iload hX dX11_worked_217 0 rfl ?_
                          refine J_bipush hX (100 : Int32) dX11_worked_219 (by decide) ?_
                          refine J_isub hX dX11_worked_221 ?_
                          refine J_goto hX 243 dX11_worked_222 (by decide) ?_
                          refine J_sub [(0, .ref 78), (1, .int v1), (2, .int v2), (3, .int v3), (4, .int (gI m 86 (ix v3)))] [1, 2, 3, 4, 0] rfl ?_
                          exact t_X11_worked_J243 hX hd0 hn hF v1 v2 v3 (gI m 86 (ix v3)) ((gI m 86 (ix v3)) - (100 : Int32)) (fun w1 w2 w3 m h => ih w1 w2 w3 m h) m h
    · refine J_aload_n hX dX11_worked_335 rfl 0 rfl ?_
      refine J_iconst hX (0 : Int32) dX11_worked_336 ic_0 ?_
      obtain ⟨m2, h0, h⟩ := bd1_some h
      refine J_callVv (As := [.int (0 : Int32)]) (st := []) hX dX11_worked_337 cw_RX11_236 (by omega) (c_X11_tests hn  h0) (ltn ltc_78 hn) lo_78 (by decide) rfl rfl rfl (Nat.le_of_ble_eq_true rfl) ?_
      clear h0
      refine J_aload_n hX dX11_worked_340 rfl 0 rfl ?_
      refine J_getR hX dX11_worked_341 fl_RX11_41 (ltn ltc_78 hn) lo_78 rfl (rt_78_21 _ _ _ _ _) ?_
      refine J_iconst hX (0 : Int32) dX11_worked_344 ic_0 ?_
      refine J_iaload0 hX dX11_worked_345 (ltn ltc_89 hn) lay_89 (by decide) ?_
      exact J_ireturn hX dX11_worked_346 h hF rfl
theorem t_X11_worked {X : XX} {G : GG} {ρ : Nat → Nat} {n t u w v : Nat} {x : Option Nat} {d : Nat} (hX : Ok X G ρ cX11_worked 6 RX11 d) (hd0 : 2 ≤ d) (hn : 126 ≤ n) {rE : Int32} {mE : Mm} (hF : Fin' X G ρ n (some .int) (some (.int rE)) (RT t u w v x) mE) {x1 : Int32} {m : Mm} (h : f_X11_worked x1 m = some (rE, mE)) : J X G ρ n 6 0 [(0, .ref 78), (1, .int x1)] [] (RT t u w v x) m := by
  unfold f_X11_worked at h
  refine J_iconst hX (0 : Int32) dX11_worked_0 ic_0 ?_
  refine J_istore_n hX [(2, .int (0 : Int32)), (0, .ref 78), (1, .int x1)] dX11_worked_1 rfl (by decide) rfl ?_
  refine J_aload_n hX dX11_worked_2 rfl 1 rfl ?_
  refine J_iconst hX (0 : Int32) dX11_worked_3 ic_0 ?_
  obtain ⟨m1, h0, h⟩ := bd1_some h
  refine J_callVv (As := [.int (0 : Int32)]) (st := []) hX dX11_worked_4 cw_RX11_233 (by omega) (c_X11_opens hn  h0) (ltn ltc_78 hn) lo_78 (by decide) rfl rfl rfl (Nat.le_of_ble_eq_true rfl) ?_
  clear h0
  refine J_aload_n hX dX11_worked_7 rfl 1 rfl ?_
  refine J_getR hX dX11_worked_8 fl_RX11_25 (ltn ltc_78 hn) lo_78 rfl (rt_78_14 _ _ _ _ _) ?_
  refine J_iload_n hX dX11_worked_11 rfl 2 rfl ?_
  refine J_iaload hX dX11_worked_12 (ltn ltc_84 hn) lay_84 h (fun h => ?_)
  refine J_istore_n hX [(3, .int (gI m1 84 (ix x1))), (2, .int (0 : Int32)), (0, .ref 78), (1, .int x1)] dX11_worked_13 rfl (by decide) rfl ?_
  refine J_sub [(0, .ref 78), (1, .int x1), (2, .int (0 : Int32)), (3, .int (gI m1 84 (ix x1)))] [2, 3, 1, 0] rfl ?_
  exact t_X11_worked_L14 hX hd0 hn hF FU x1 (0 : Int32) (gI m1 84 (ix x1))  m1 h
theorem c_X11_worked {G : GG} {l : Launch} {ρ : Nat → Nat} {n t u w v : Nat} {x : Option Nat} (hn : 126 ≤ n) {x1 : Int32} {m : Mm} {rE : Int32} {mE : Mm} (h : f_X11_worked x1 m = some (rE, mE)) : CT G l yX11_worked cX11_worked 6 (some .int) 2 0 0 ρ n (RT t u w v x) [.ref 78, .int x1] m (some (.int rE)) (RT t u w v x) mE := ct_of_J (by decide) rfl (Nat.le_of_ble_eq_true rfl) (fun X hX e1 e2 e3 e4 hQ hr hl => t_X11_worked hX (Nat.le_refl _) hn ⟨by rw [hQ, e3, e4], hr, hl⟩ h)
theorem t_X11_laysStripe_J188 {X : XX} {G : GG} {ρ : Nat → Nat} {n t u w v : Nat} {x : Option Nat} {d : Nat} (hX : Ok X G ρ cX11_laysStripe 9 RX11 d) (hd0 : 3 ≤ d) (hn : 126 ≤ n) {mE : Mm} (hF : Fin' X G ρ n none none (RT t u w v x) mE) (v2 : Int32) (v6 : Int32) (s0 : Int32) (m : Mm) (h : f_X11_laysStripe_J188 v2 v6 s0 m = some mE) : J X G ρ n 9 188 [(0, .ref 78), (2, .int v2), (6, .int v6)] [.int s0] (RT t u w v x) m := by
  unfold f_X11_laysStripe_J188 at h
  refine J_istore hX [(7, .int s0), (0, .ref 78), (2, .int v2), (6, .int v6)] dX11_laysStripe_188 (by decide) rfl ?_
  refine J_aload_n hX dX11_laysStripe_190 rfl 1 rfl ?_
  refine J_getR hX dX11_laysStripe_191 fl_RX11_80 (ltn ltc_78 hn) lo_78 rfl (rt_78_35 _ _ _ _ _) ?_
  refine J_iload hX dX11_laysStripe_194 3 rfl ?_
  refine J_iload hX dX11_laysStripe_196 0 rfl ?_
  refine J_aload_n hX dX11_laysStripe_198 rfl 1 rfl ?_
  refine J_getR hX dX11_laysStripe_199 fl_RX11_19 (ltn ltc_78 hn) lo_78 rfl (rt_78_12 _ _ _ _ _) ?_
  refine J_iload_n hX dX11_laysStripe_202 rfl 2 rfl ?_
  refine J_iaload hX dX11_laysStripe_203 (ltn ltc_82 hn) lay_82 h (fun h => ?_)
  refine J_irem hX dX11_laysStripe_204 h (fun h => ?_)
  refine J_aload_n hX dX11_laysStripe_205 rfl 1 rfl ?_
  refine J_getR hX dX11_laysStripe_206 fl_RX11_19 (ltn ltc_78 hn) lo_78 rfl (rt_78_12 _ _ _ _ _) ?_
  refine J_iload_n hX dX11_laysStripe_209 rfl 2 rfl ?_
  refine J_iaload hX dX11_laysStripe_210 (ltn ltc_82 hn) lay_82 h (fun h => ?_)
  refine J_iadd hX dX11_laysStripe_211 ?_
  refine J_aload_n hX dX11_laysStripe_212 rfl 1 rfl ?_
  refine J_getR hX dX11_laysStripe_213 fl_RX11_19 (ltn ltc_78 hn) lo_78 rfl (rt_78_12 _ _ _ _ _) ?_
  refine J_iload_n hX dX11_laysStripe_216 rfl 2 rfl ?_
  refine J_iaload hX dX11_laysStripe_217 (ltn ltc_82 hn) lay_82 h (fun h => ?_)
  refine J_irem hX dX11_laysStripe_218 h (fun h => ?_)
  refine J_iastore hX dX11_laysStripe_219 (ltn ltc_102 hn) lay_102 h (fun m8 h => ?_)
  exact J_return hX dX11_laysStripe_220 h hF
theorem t_X11_laysStripe_L47 {X : XX} {G : GG} {ρ : Nat → Nat} {n t u w v : Nat} {x : Option Nat} {d : Nat} (hX : Ok X G ρ cX11_laysStripe 9 RX11 d) (hd0 : 3 ≤ d) (hn : 126 ≤ n) {mE : Mm} (hF : Fin' X G ρ n none none (RT t u w v x) mE) : ∀ (k : Nat) (v1 : Int32) (v2 : Int32) (v3 : Int32) (v4 : Int32) (v5 : Int32) (v6 : Int32) (v7 : Int32) (m : Mm), f_X11_laysStripe_L47 k v1 v2 v3 v4 v5 v6 v7 m = some mE → J X G ρ n 9 47 [(0, .ref 78), (1, .int v1), (2, .int v2), (3, .int v3), (4, .int v4), (5, .int v5), (6, .int v6), (7, .int v7)] [] (RT t u w v x) m := by
  intro k
  induction k with
  | zero => intro _ _ _ _ _ _ _ _ h; rw [f_X11_laysStripe_L47] at h; cases h
  | succ k ih =>
    intro v1 v2 v3 v4 v5 v6 v7 m h
    rw [f_X11_laysStripe_L47] at h
    refine J_iload hX dX11_laysStripe_47 7 rfl ?_
    refine J_aload_n hX dX11_laysStripe_49 rfl 0 rfl ?_
    refine J_getR hX dX11_laysStripe_50 fl_RX11_19 (ltn ltc_78 hn) lo_78 rfl (rt_78_12 _ _ _ _ _) ?_
    refine J_iload_n hX dX11_laysStripe_53 rfl 2 rfl ?_
    refine J_iaload hX dX11_laysStripe_54 (ltn ltc_82 hn) lay_82 h (fun h => ?_)
    refine J_icmp_ge hX 111 dX11_laysStripe_55 (by decide) h (fun c h => ?_) (fun c h => ?_)
    · refine J_aload_n hX dX11_laysStripe_58 rfl 0 rfl ?_
      refine J_getR hX dX11_laysStripe_59 fl_RX11_22 (ltn ltc_78 hn) lo_78 rfl (rt_78_13 _ _ _ _ _) ?_
      refine J_iconst hX (5 : Int32) dX11_laysStripe_62 ic_5 ?_
      refine J_iload_n hX dX11_laysStripe_63 rfl 2 rfl ?_
      refine J_imul hX dX11_laysStripe_64 ?_
      refine J_iload hX dX11_laysStripe_65 7 rfl ?_
      refine J_iadd hX dX11_laysStripe_67 ?_
      refine J_iaload hX dX11_laysStripe_68 (ltn ltc_83 hn) lay_83 h (fun h => ?_)
      refine J_iload_n hX dX11_laysStripe_69 rfl 3 rfl ?_
      refine J_iadd hX dX11_laysStripe_70 ?_
      refine J_iload hX dX11_laysStripe_71 5 rfl ?_
      refine J_irem hX dX11_laysStripe_73 h (fun h => ?_)
      refine J_istore hX [(8, .int (((gI m 83 (ix (((5 : Int32) * v2) + v7))) + v3) - ((gI m 83 (ix (((5 : Int32) * v2) + v7))) + v3) / v5 * v5)), (0, .ref 78), (1, .int v1), (2, .int v2), (3, .int v3), (4, .int v4), (5, .int v5), (6, .int v6), (7, .int v7)] dX11_laysStripe_74 (by decide) rfl ?_
      refine J_aload_n hX dX11_laysStripe_76 rfl 1 rfl ?_
      refine J_getR hX dX11_laysStripe_77 fl_RX11_89 (ltn ltc_78 hn) lo_78 rfl (rt_78_38 _ _ _ _ _) ?_
      refine J_iconst hX (5 : Int32) dX11_laysStripe_80 ic_5 ?_
      refine J_iload hX dX11_laysStripe_81 7 rfl ?_
      refine J_imul hX dX11_laysStripe_83 ?_
      refine J_iload hX dX11_laysStripe_84 8 rfl ?_
      refine J_iadd hX dX11_laysStripe_86 ?_
      refine J_iload hX dX11_laysStripe_87 5 rfl ?_
      refine J_if_eq hX 102 dX11_laysStripe_89 (by decide) h (fun c h => ?_) (fun c h => ?_)
      · refine J_iload hX dX11_laysStripe_102 0 rfl ?_
        refine J_iastore hX dX11_laysStripe_104 (ltn ltc_105 hn) lay_105 h (fun m11 h => ?_)
        refine J_iinc hX (v7 + (1 : Int32)) [(7, .int (v7 + (1 : Int32))), (8, .int (((gI m 83 (ix (((5 : Int32) * v2) + v7))) + v3) - ((gI m 83 (ix (((5 : Int32) * v2) + v7))) + v3) / v5 * v5)), (0, .ref 78), (1, .int v1), (2, .int v2), (3, .int v3), (4, .int v4), (5, .int v5), (6, .int v6)] dX11_laysStripe_105 8 rfl (congrArg (fun z => v7 + z) ic_1) (by decide) rfl ?_
        refine J_goto hX 47 dX11_laysStripe_108 (by decide) ?_
        refine J_sub [(0, .ref 78), (1, .int v1), (2, .int v2), (3, .int v3), (4, .int v4), (5, .int v5), (6, .int v6), (7, .int (v7 + (1 : Int32)))] [2, 3, 4, 5, 6, 7, 8, 0] rfl ?_
        exact ih v1 v2 v3 v4 v5 v6 (v7 + (1 : Int32)) m11 h
      · refine J_iload hX dX11_laysStripe_92 6 rfl ?_
        refine J_iconst hX (1 : Int32) dX11_laysStripe_94 ic_1 ?_
        refine J_isub hX dX11_laysStripe_95 ?_
        refine J_iload hX dX11_laysStripe_96 0 rfl ?_
        refine J_isub hX dX11_laysStripe_98 ?_
        refine J_goto hX 104 dX11_laysStripe_99 (by decide) ?_
        refine J_iastore hX dX11_laysStripe_104 (ltn ltc_105 hn) lay_105 h (fun m12 h => ?_)
        refine J_iinc hX (v7 + (1 : Int32)) [(7, .int (v7 + (1 : Int32))), (8, .int (((gI m 83 (ix (((5 : Int32) * v2) + v7))) + v3) - ((gI m 83 (ix (((5 : Int32) * v2) + v7))) + v3) / v5 * v5)), (0, .ref 78), (1, .int v1), (2, .int v2), (3, .int v3), (4, .int v4), (5, .int v5), (6, .int v6)] dX11_laysStripe_105 8 rfl (congrArg (fun z => v7 + z) ic_1) (by decide) rfl ?_
        refine J_goto hX 47 dX11_laysStripe_108 (by decide) ?_
        refine J_sub [(0, .ref 78), (1, .int v1), (2, .int v2), (3, .int v3), (4, .int v4), (5, .int v5), (6, .int v6), (7, .int (v7 + (1 : Int32)))] [2, 3, 4, 5, 6, 7, 8, 0] rfl ?_
        exact ih v1 v2 v3 v4 v5 v6 (v7 + (1 : Int32)) m12 h
    · refine J_aload_n hX dX11_laysStripe_111 rfl 0 rfl ?_
      refine J_getR hX dX11_laysStripe_112 fl_RX11_68 (ltn ltc_78 hn) lo_78 rfl (rt_78_30 _ _ _ _ _) ?_
      refine J_iconst hX (1 : Int32) dX11_laysStripe_115 ic_1 ?_
      refine J_aload_n hX dX11_laysStripe_116 rfl 0 rfl ?_
      refine J_getR hX dX11_laysStripe_117 fl_RX11_71 (ltn ltc_78 hn) lo_78 rfl (rt_78_32 _ _ _ _ _) ?_
      refine J_iload_n hX dX11_laysStripe_120 rfl 1 rfl ?_
      refine J_iaload hX dX11_laysStripe_121 (ltn ltc_99 hn) lay_99 h (fun h => ?_)
      refine J_iconst hX (1 : Int32) dX11_laysStripe_122 ic_1 ?_
      refine J_isub hX dX11_laysStripe_123 ?_
      refine J_iastore0 hX dX11_laysStripe_124 (ltn ltc_98 hn) lay_98 (by decide) h (fun m4 h => ?_)
      refine J_aload_n hX dX11_laysStripe_125 rfl 0 rfl ?_
      refine J_getR hX dX11_laysStripe_126 fl_RX11_68 (ltn ltc_78 hn) lo_78 rfl (rt_78_30 _ _ _ _ _) ?_
      refine J_iconst hX (2 : Int32) dX11_laysStripe_129 ic_2 ?_
      refine J_aload_n hX dX11_laysStripe_130 rfl 0 rfl ?_
      refine J_getR hX dX11_laysStripe_131 fl_RX11_19 (ltn ltc_78 hn) lo_78 rfl (rt_78_12 _ _ _ _ _) ?_
      refine J_iload_n hX dX11_laysStripe_134 rfl 2 rfl ?_
      refine J_iaload hX dX11_laysStripe_135 (ltn ltc_82 hn) lay_82 h (fun h => ?_)
      refine J_iastore0 hX dX11_laysStripe_136 (ltn ltc_98 hn) lay_98 (by decide) h (fun m5 h => ?_)
      refine J_aload_n hX dX11_laysStripe_137 rfl 0 rfl ?_
      refine J_getR hX dX11_laysStripe_138 fl_RX11_68 (ltn ltc_78 hn) lo_78 rfl (rt_78_30 _ _ _ _ _) ?_
      refine J_iconst hX (3 : Int32) dX11_laysStripe_141 ic_3 ?_
      refine J_aload_n hX dX11_laysStripe_142 rfl 0 rfl ?_
      refine J_getR hX dX11_laysStripe_143 fl_RX11_89 (ltn ltc_78 hn) lo_78 rfl (rt_78_38 _ _ _ _ _) ?_
      refine J_iconst hX (5 : Int32) dX11_laysStripe_146 ic_5 ?_
      refine J_iload hX dX11_laysStripe_147 6 rfl ?_
      refine J_imul hX dX11_laysStripe_149 ?_
      refine J_iaload hX dX11_laysStripe_150 (ltn ltc_105 hn) lay_105 h (fun h => ?_)
      refine J_iastore0 hX dX11_laysStripe_151 (ltn ltc_98 hn) lay_98 (by decide) h (fun m6 h => ?_)
      refine J_aload_n hX dX11_laysStripe_152 rfl 0 rfl ?_
      refine J_getR hX dX11_laysStripe_153 fl_RX11_68 (ltn ltc_78 hn) lo_78 rfl (rt_78_30 _ _ _ _ _) ?_
      refine J_iconst hX (4 : Int32) dX11_laysStripe_156 ic_4 ?_
      refine J_iload_n hX dX11_laysStripe_157 rfl 2 rfl ?_
      refine J_iastore0 hX dX11_laysStripe_158 (ltn ltc_98 hn) lay_98 (by decide) h (fun m7 h => ?_)
      refine J_aload_n hX dX11_laysStripe_159 rfl 0 rfl ?_
      refine J_getR hX dX11_laysStripe_160 fl_RX11_28 (ltn ltc_78 hn) lo_78 rfl (rt_78_15 _ _ _ _ _) ?_
      refine J_iconst hX (0 : Int32) dX11_laysStripe_163 ic_0 ?_
      refine J_iaload0 hX dX11_laysStripe_164 (ltn ltc_85 hn) lay_85 (by decide) ?_
      refine J_aload_n hX dX11_laysStripe_165 rfl 0 rfl ?_
      refine J_getR hX dX11_laysStripe_166 fl_RX11_25 (ltn ltc_78 hn) lo_78 rfl (rt_78_14 _ _ _ _ _) ?_
      refine J_iconst hX (0 : Int32) dX11_laysStripe_169 ic_0 ?_
      refine J_iaload0 hX dX11_laysStripe_170 (ltn ltc_84 hn) lay_84 (by decide) ?_
      refine J_icmp_le hX 182 dX11_laysStripe_171 (by decide) h (fun c h => ?_) (fun c h => ?_)
      · refine J_aload_n hX dX11_laysStripe_174 rfl 0 rfl ?_
        refine J_iconst hX (0 : Int32) dX11_laysStripe_175 ic_0 ?_
        obtain ⟨r10, m9, h0, h⟩ := bd2_some h
        refine J_callVi (As := [.int (0 : Int32)]) (st := []) hX dX11_laysStripe_176 cw_RX11_306 (by omega) (c_X11_worked hn  h0) (ltn ltc_78 hn) lo_78 (by decide) rfl rfl rfl (Nat.le_of_ble_eq_true rfl) ?_
        clear h0
        refine J_goto hX 188 dX11_laysStripe_179 (by decide) ?_
        refine J_sub [(0, .ref 78), (2, .int v2), (6, .int v6)] [0, 2, 6] rfl ?_
        exact t_X11_laysStripe_J188 hX hd0 hn hF v2 v6 r10 m9 h
      · refine J_aload_n hX dX11_laysStripe_182 rfl 0 rfl ?_
        refine J_getR hX dX11_laysStripe_183 fl_RX11_68 (ltn ltc_78 hn) lo_78 rfl (rt_78_30 _ _ _ _ _) ?_
        refine J_iconst hX (1 : Int32) dX11_laysStripe_186 ic_1 ?_
        refine J_iaload0 hX dX11_laysStripe_187 (ltn ltc_98 hn) lay_98 (by decide) ?_
        refine J_sub [(0, .ref 78), (2, .int v2), (6, .int v6)] [0, 2, 6] rfl ?_
        exact t_X11_laysStripe_J188 hX hd0 hn hF v2 v6 (gI m7 98 (ix (1 : Int32))) m7 h
theorem t_X11_laysStripe {X : XX} {G : GG} {ρ : Nat → Nat} {n t u w v : Nat} {x : Option Nat} {d : Nat} (hX : Ok X G ρ cX11_laysStripe 9 RX11 d) (hd0 : 3 ≤ d) (hn : 126 ≤ n) {mE : Mm} (hF : Fin' X G ρ n none none (RT t u w v x) mE) {x1 : Int32} {x2 : Int32} {x3 : Int32} {x4 : Int32} {x5 : Int32} {m : Mm} (h : f_X11_laysStripe x1 x2 x3 x4 x5 m = some mE) : J X G ρ n 9 0 [(0, .ref 78), (1, .int x1), (2, .int x2), (3, .int x3), (4, .int x4), (5, .int x5)] [] (RT t u w v x) m := by
  unfold f_X11_laysStripe at h
  refine J_bipush hX (40 : Int32) dX11_laysStripe_0 (by decide) ?_
  refine J_iload_n hX dX11_laysStripe_2 rfl 1 rfl ?_
  refine J_imul hX dX11_laysStripe_3 ?_
  refine J_aload_n hX dX11_laysStripe_4 rfl 0 rfl ?_
  refine J_getR hX dX11_laysStripe_5 fl_RX11_71 (ltn ltc_78 hn) lo_78 rfl (rt_78_32 _ _ _ _ _) ?_
  refine J_iload_n hX dX11_laysStripe_8 rfl 1 rfl ?_
  refine J_iaload hX dX11_laysStripe_9 (ltn ltc_99 hn) lay_99 h (fun h => ?_)
  refine J_iadd hX dX11_laysStripe_10 ?_
  refine J_istore hX [(6, .int (((40 : Int32) * x1) + (gI m 99 (ix x1)))), (0, .ref 78), (1, .int x1), (2, .int x2), (3, .int x3), (4, .int x4), (5, .int x5)] dX11_laysStripe_11 (by decide) rfl ?_
  refine J_aload_n hX dX11_laysStripe_13 rfl 1 rfl ?_
  refine J_getR hX dX11_laysStripe_14 fl_RX11_71 (ltn ltc_78 hn) lo_78 rfl (rt_78_32 _ _ _ _ _) ?_
  refine J_iload_n hX dX11_laysStripe_17 rfl 2 rfl ?_
  refine J_dup2 hX dX11_laysStripe_18 rfl rfl ?_
  refine J_iaload hX dX11_laysStripe_19 (ltn ltc_99 hn) lay_99 h (fun h => ?_)
  refine J_iconst hX (1 : Int32) dX11_laysStripe_20 ic_1 ?_
  refine J_iadd hX dX11_laysStripe_21 ?_
  refine J_iastore hX dX11_laysStripe_22 (ltn ltc_99 hn) lay_99 h (fun m1 h => ?_)
  refine J_aload_n hX dX11_laysStripe_23 rfl 1 rfl ?_
  refine J_getR hX dX11_laysStripe_24 fl_RX11_74 (ltn ltc_78 hn) lo_78 rfl (rt_78_33 _ _ _ _ _) ?_
  refine J_iload hX dX11_laysStripe_27 0 rfl ?_
  refine J_aload_n hX dX11_laysStripe_29 rfl 1 rfl ?_
  refine J_getR hX dX11_laysStripe_30 fl_RX11_19 (ltn ltc_78 hn) lo_78 rfl (rt_78_12 _ _ _ _ _) ?_
  refine J_iload_n hX dX11_laysStripe_33 rfl 3 rfl ?_
  refine J_iaload hX dX11_laysStripe_34 (ltn ltc_82 hn) lay_82 h (fun h => ?_)
  refine J_iastore hX dX11_laysStripe_35 (ltn ltc_100 hn) lay_100 h (fun m2 h => ?_)
  refine J_aload_n hX dX11_laysStripe_36 rfl 1 rfl ?_
  refine J_getR hX dX11_laysStripe_37 fl_RX11_77 (ltn ltc_78 hn) lo_78 rfl (rt_78_34 _ _ _ _ _) ?_
  refine J_iload hX dX11_laysStripe_40 0 rfl ?_
  refine J_iload_n hX dX11_laysStripe_42 rfl 3 rfl ?_
  refine J_iastore hX dX11_laysStripe_43 (ltn ltc_101 hn) lay_101 h (fun m3 h => ?_)
  refine J_iconst hX (0 : Int32) dX11_laysStripe_44 ic_0 ?_
  refine J_istore hX [(7, .int (0 : Int32)), (6, .int (((40 : Int32) * x1) + (gI m 99 (ix x1)))), (0, .ref 78), (1, .int x1), (2, .int x2), (3, .int x3), (4, .int x4), (5, .int x5)] dX11_laysStripe_45 (by decide) rfl ?_
  refine J_sub [(0, .ref 78), (1, .int x1), (2, .int x2), (3, .int x3), (4, .int x4), (5, .int x5), (6, .int (((40 : Int32) * x1) + (gI m 99 (ix x1)))), (7, .int (0 : Int32))] [2, 3, 4, 5, 6, 7, 1, 0] rfl ?_
  exact t_X11_laysStripe_L47 hX hd0 hn hF FU x1 x2 x3 x4 x5 (((40 : Int32) * x1) + (gI m 99 (ix x1))) (0 : Int32)  m3 h
theorem c_X11_laysStripe {G : GG} {l : Launch} {ρ : Nat → Nat} {n t u w v : Nat} {x : Option Nat} (hn : 126 ≤ n) {x1 : Int32} {x2 : Int32} {x3 : Int32} {x4 : Int32} {x5 : Int32} {m : Mm} {mE : Mm} (h : f_X11_laysStripe x1 x2 x3 x4 x5 m = some mE) : CT G l yX11_laysStripe cX11_laysStripe 9 none 3 0 0 ρ n (RT t u w v x) [.ref 78, .int x1, .int x2, .int x3, .int x4, .int x5] m none (RT t u w v x) mE := ct_of_J (by decide) rfl (Nat.le_of_ble_eq_true rfl) (fun X hX e1 e2 e3 e4 hQ hr hl => t_X11_laysStripe hX (Nat.le_refl _) hn ⟨by rw [hQ, e3, e4], hr, hl⟩ h)
theorem t_X11_unitOn_L2 {X : XX} {G : GG} {ρ : Nat → Nat} {n t u w v : Nat} {x : Option Nat} {d : Nat} (hX : Ok X G ρ cX11_unitOn 4 RX11 d) (hd0 : 0 ≤ d) (hn : 126 ≤ n) {rE : Int32} {mE : Mm} (hF : Fin' X G ρ n (some .int) (some (.int rE)) (RT t u w v x) mE) : ∀ (k : Nat) (v1 : Int32) (v2 : Int32) (v3 : Int32) (m : Mm), f_X11_unitOn_L2 k v1 v2 v3 m = some (rE, mE) → J X G ρ n 4 2 [(0, .ref 78), (1, .int v1), (2, .int v2), (3, .int v3)] [] (RT t u w v x) m := by
  intro k
  induction k with
  | zero => intro _ _ _ _ h; rw [f_X11_unitOn_L2] at h; cases h
  | succ k ih =>
    intro v1 v2 v3 m h
    rw [f_X11_unitOn_L2] at h
    refine J_iload_n hX dX11_unitOn_2 rfl 3 rfl ?_
    refine J_aload_n hX dX11_unitOn_3 rfl 0 rfl ?_
    refine J_getR hX dX11_unitOn_4 fl_RX11_74 (ltn ltc_78 hn) lo_78 rfl (rt_78_33 _ _ _ _ _) ?_
    refine J_iload_n hX dX11_unitOn_7 rfl 1 rfl ?_
    refine J_iaload hX dX11_unitOn_8 (ltn ltc_100 hn) lay_100 h (fun h => ?_)
    refine J_icmp_ge hX 34 dX11_unitOn_9 (by decide) h (fun c h => ?_) (fun c h => ?_)
    · refine J_aload_n hX dX11_unitOn_12 rfl 0 rfl ?_
      refine J_getR hX dX11_unitOn_13 fl_RX11_89 (ltn ltc_78 hn) lo_78 rfl (rt_78_38 _ _ _ _ _) ?_
      refine J_iconst hX (5 : Int32) dX11_unitOn_16 ic_5 ?_
      refine J_iload_n hX dX11_unitOn_17 rfl 1 rfl ?_
      refine J_imul hX dX11_unitOn_18 ?_
      refine J_iload_n hX dX11_unitOn_19 rfl 3 rfl ?_
      refine J_iadd hX dX11_unitOn_20 ?_
      refine J_iaload hX dX11_unitOn_21 (ltn ltc_105 hn) lay_105 h (fun h => ?_)
      refine J_iload_n hX dX11_unitOn_22 rfl 2 rfl ?_
      refine J_icmp_ne hX 28 dX11_unitOn_23 (by decide) h (fun c h => ?_) (fun c h => ?_)
      · refine J_iload_n hX dX11_unitOn_26 rfl 3 rfl ?_
        exact J_ireturn hX dX11_unitOn_27 h hF rfl
      · refine J_iinc hX (v3 + (1 : Int32)) [(3, .int (v3 + (1 : Int32))), (0, .ref 78), (1, .int v1), (2, .int v2)] dX11_unitOn_28 3 rfl (congrArg (fun z => v3 + z) ic_1) (by decide) rfl ?_
        refine J_goto hX 2 dX11_unitOn_31 (by decide) ?_
        refine J_sub [(0, .ref 78), (1, .int v1), (2, .int v2), (3, .int (v3 + (1 : Int32)))] [1, 2, 3, 0] rfl ?_
        exact ih v1 v2 (v3 + (1 : Int32)) m h
    · refine J_iconst hX (-1 : Int32) dX11_unitOn_34 ic_m1 ?_
      exact J_ireturn hX dX11_unitOn_35 h hF rfl
theorem t_X11_unitOn {X : XX} {G : GG} {ρ : Nat → Nat} {n t u w v : Nat} {x : Option Nat} {d : Nat} (hX : Ok X G ρ cX11_unitOn 4 RX11 d) (hd0 : 0 ≤ d) (hn : 126 ≤ n) {rE : Int32} {mE : Mm} (hF : Fin' X G ρ n (some .int) (some (.int rE)) (RT t u w v x) mE) {x1 : Int32} {x2 : Int32} {m : Mm} (h : f_X11_unitOn x1 x2 m = some (rE, mE)) : J X G ρ n 4 0 [(0, .ref 78), (1, .int x1), (2, .int x2)] [] (RT t u w v x) m := by
  unfold f_X11_unitOn at h
  refine J_iconst hX (0 : Int32) dX11_unitOn_0 ic_0 ?_
  refine J_istore_n hX [(3, .int (0 : Int32)), (0, .ref 78), (1, .int x1), (2, .int x2)] dX11_unitOn_1 rfl (by decide) rfl ?_
  refine J_sub [(0, .ref 78), (1, .int x1), (2, .int x2), (3, .int (0 : Int32))] [1, 2, 3, 0] rfl ?_
  exact t_X11_unitOn_L2 hX hd0 hn hF FU x1 x2 (0 : Int32)  m h
theorem c_X11_unitOn {G : GG} {l : Launch} {ρ : Nat → Nat} {n t u w v : Nat} {x : Option Nat} (hn : 126 ≤ n) {x1 : Int32} {x2 : Int32} {m : Mm} {rE : Int32} {mE : Mm} (h : f_X11_unitOn x1 x2 m = some (rE, mE)) : CT G l yX11_unitOn cX11_unitOn 4 (some .int) 0 0 0 ρ n (RT t u w v x) [.ref 78, .int x1, .int x2] m (some (.int rE)) (RT t u w v x) mE := ct_of_J (by decide) rfl (Nat.le_of_ble_eq_true rfl) (fun X hX e1 e2 e3 e4 hQ hr hl => t_X11_unitOn hX (Nat.le_refl _) hn ⟨by rw [hQ, e3, e4], hr, hl⟩ h)
theorem t_X11_unitsOn_L9 {X : XX} {G : GG} {ρ : Nat → Nat} {n t u w v : Nat} {x : Option Nat} {d : Nat} (hX : Ok X G ρ cX11_unitsOn 6 RX11 d) (hd0 : 1 ≤ d) (hn : 126 ≤ n) {rE : Int32} {mE : Mm} (hF : Fin' X G ρ n (some .int) (some (.int rE)) (RT t u w v x) mE) : ∀ (k : Nat) (v1 : Int32) (v2 : Int32) (v3 : Int32) (v4 : Int32) (v5 : Int32) (m : Mm), f_X11_unitsOn_L9 k v1 v2 v3 v4 v5 m = some (rE, mE) → J X G ρ n 6 9 [(0, .ref 78), (1, .int v1), (2, .int v2), (3, .int v3), (4, .int v4), (5, .int v5)] [] (RT t u w v x) m := by
  intro k
  induction k with
  | zero => intro _ _ _ _ _ _ h; rw [f_X11_unitsOn_L9] at h; cases h
  | succ k ih =>
    intro v1 v2 v3 v4 v5 m h
    rw [f_X11_unitsOn_L9] at h
    refine J_iload hX dX11_unitsOn_9 5 rfl ?_
    refine J_bipush hX (40 : Int32) dX11_unitsOn_11 (by decide) ?_
    refine J_iload_n hX dX11_unitsOn_13 rfl 1 rfl ?_
    refine J_imul hX dX11_unitsOn_14 ?_
    refine J_iload_n hX dX11_unitsOn_15 rfl 3 rfl ?_
    refine J_iadd hX dX11_unitsOn_16 ?_
    refine J_icmp_ge hX 46 dX11_unitsOn_17 (by decide) h (fun c h => ?_) (fun c h => ?_)
    · refine J_iload hX dX11_unitsOn_20 4 rfl ?_
      refine J_aload_n hX dX11_unitsOn_22 rfl 0 rfl ?_
      refine J_iload hX dX11_unitsOn_23 5 rfl ?_
      refine J_iload_n hX dX11_unitsOn_25 rfl 2 rfl ?_
      obtain ⟨r2, m1, h0, h⟩ := bd2_some h
      refine J_callVi (As := [.int v5, .int v2]) (st := [.int v4]) hX dX11_unitsOn_26 cw_RX11_309 (by omega) (c_X11_unitOn hn  h0) (ltn ltc_78 hn) lo_78 (by decide) rfl rfl rfl (Nat.le_of_ble_eq_true rfl) ?_
      clear h0
      refine J_if_lt hX 36 dX11_unitsOn_29 (by decide) h (fun c h => ?_) (fun c h => ?_)
      · refine J_iconst hX (0 : Int32) dX11_unitsOn_36 ic_0 ?_
        refine J_iadd hX dX11_unitsOn_37 ?_
        refine J_istore hX [(4, .int (v4 + (0 : Int32))), (0, .ref 78), (1, .int v1), (2, .int v2), (3, .int v3), (5, .int v5)] dX11_unitsOn_38 (by decide) rfl ?_
        refine J_iinc hX (v5 + (1 : Int32)) [(5, .int (v5 + (1 : Int32))), (4, .int (v4 + (0 : Int32))), (0, .ref 78), (1, .int v1), (2, .int v2), (3, .int v3)] dX11_unitsOn_40 5 rfl (congrArg (fun z => v5 + z) ic_1) (by decide) rfl ?_
        refine J_goto hX 9 dX11_unitsOn_43 (by decide) ?_
        refine J_sub [(0, .ref 78), (1, .int v1), (2, .int v2), (3, .int v3), (4, .int (v4 + (0 : Int32))), (5, .int (v5 + (1 : Int32)))] [2, 3, 4, 5, 1, 0] rfl ?_
        exact ih v1 v2 v3 (v4 + (0 : Int32)) (v5 + (1 : Int32)) m1 h
      · refine J_iconst hX (1 : Int32) dX11_unitsOn_32 ic_1 ?_
        refine J_goto hX 37 dX11_unitsOn_33 (by decide) ?_
        refine J_iadd hX dX11_unitsOn_37 ?_
        refine J_istore hX [(4, .int (v4 + (1 : Int32))), (0, .ref 78), (1, .int v1), (2, .int v2), (3, .int v3), (5, .int v5)] dX11_unitsOn_38 (by decide) rfl ?_
        refine J_iinc hX (v5 + (1 : Int32)) [(5, .int (v5 + (1 : Int32))), (4, .int (v4 + (1 : Int32))), (0, .ref 78), (1, .int v1), (2, .int v2), (3, .int v3)] dX11_unitsOn_40 5 rfl (congrArg (fun z => v5 + z) ic_1) (by decide) rfl ?_
        refine J_goto hX 9 dX11_unitsOn_43 (by decide) ?_
        refine J_sub [(0, .ref 78), (1, .int v1), (2, .int v2), (3, .int v3), (4, .int (v4 + (1 : Int32))), (5, .int (v5 + (1 : Int32)))] [2, 3, 4, 5, 1, 0] rfl ?_
        exact ih v1 v2 v3 (v4 + (1 : Int32)) (v5 + (1 : Int32)) m1 h
    · refine J_iload hX dX11_unitsOn_46 4 rfl ?_
      exact J_ireturn hX dX11_unitsOn_48 h hF rfl
theorem t_X11_unitsOn {X : XX} {G : GG} {ρ : Nat → Nat} {n t u w v : Nat} {x : Option Nat} {d : Nat} (hX : Ok X G ρ cX11_unitsOn 6 RX11 d) (hd0 : 1 ≤ d) (hn : 126 ≤ n) {rE : Int32} {mE : Mm} (hF : Fin' X G ρ n (some .int) (some (.int rE)) (RT t u w v x) mE) {x1 : Int32} {x2 : Int32} {x3 : Int32} {m : Mm} (h : f_X11_unitsOn x1 x2 x3 m = some (rE, mE)) : J X G ρ n 6 0 [(0, .ref 78), (1, .int x1), (2, .int x2), (3, .int x3)] [] (RT t u w v x) m := by
  unfold f_X11_unitsOn at h
  refine J_iconst hX (0 : Int32) dX11_unitsOn_0 ic_0 ?_
  refine J_istore hX [(4, .int (0 : Int32)), (0, .ref 78), (1, .int x1), (2, .int x2), (3, .int x3)] dX11_unitsOn_1 (by decide) rfl ?_
  refine J_bipush hX (40 : Int32) dX11_unitsOn_3 (by decide) ?_
  refine J_iload_n hX dX11_unitsOn_5 rfl 2 rfl ?_
  refine J_imul hX dX11_unitsOn_6 ?_
  refine J_istore hX [(5, .int ((40 : Int32) * x1)), (4, .int (0 : Int32)), (0, .ref 78), (1, .int x1), (2, .int x2), (3, .int x3)] dX11_unitsOn_7 (by decide) rfl ?_
  refine J_sub [(0, .ref 78), (1, .int x1), (2, .int x2), (3, .int x3), (4, .int (0 : Int32)), (5, .int ((40 : Int32) * x1))] [2, 3, 4, 5, 1, 0] rfl ?_
  exact t_X11_unitsOn_L9 hX hd0 hn hF FU x1 x2 x3 (0 : Int32) ((40 : Int32) * x1)  m h
theorem c_X11_unitsOn {G : GG} {l : Launch} {ρ : Nat → Nat} {n t u w v : Nat} {x : Option Nat} (hn : 126 ≤ n) {x1 : Int32} {x2 : Int32} {x3 : Int32} {m : Mm} {rE : Int32} {mE : Mm} (h : f_X11_unitsOn x1 x2 x3 m = some (rE, mE)) : CT G l yX11_unitsOn cX11_unitsOn 6 (some .int) 1 0 0 ρ n (RT t u w v x) [.ref 78, .int x1, .int x2, .int x3] m (some (.int rE)) (RT t u w v x) mE := ct_of_J (by decide) rfl (Nat.le_of_ble_eq_true rfl) (fun X hX e1 e2 e3 e4 hQ hr hl => t_X11_unitsOn hX (Nat.le_refl _) hn ⟨by rw [hQ, e3, e4], hr, hl⟩ h)
theorem t_X11_sparesOn_L9 {X : XX} {G : GG} {ρ : Nat → Nat} {n t u w v : Nat} {x : Option Nat} {d : Nat} (hX : Ok X G ρ cX11_sparesOn 6 RX11 d) (hd0 : 0 ≤ d) (hn : 126 ≤ n) {rE : Int32} {mE : Mm} (hF : Fin' X G ρ n (some .int) (some (.int rE)) (RT t u w v x) mE) : ∀ (k : Nat) (v1 : Int32) (v2 : Int32) (v3 : Int32) (v4 : Int32) (v5 : Int32) (m : Mm), f_X11_sparesOn_L9 k v1 v2 v3 v4 v5 m = some (rE, mE) → J X G ρ n 6 9 [(0, .ref 78), (1, .int v1), (2, .int v2), (3, .int v3), (4, .int v4), (5, .int v5)] [] (RT t u w v x) m := by
  intro k
  induction k with
  | zero => intro _ _ _ _ _ _ h; rw [f_X11_sparesOn_L9] at h; cases h
  | succ k ih =>
    intro v1 v2 v3 v4 v5 m h
    rw [f_X11_sparesOn_L9] at h
    refine J_iload hX dX11_sparesOn_9 5 rfl ?_
    refine J_bipush hX (40 : Int32) dX11_sparesOn_11 (by decide) ?_
    refine J_iload_n hX dX11_sparesOn_13 rfl 1 rfl ?_
    refine J_imul hX dX11_sparesOn_14 ?_
    refine J_iload_n hX dX11_sparesOn_15 rfl 3 rfl ?_
    refine J_iadd hX dX11_sparesOn_16 ?_
    refine J_icmp_ge hX 47 dX11_sparesOn_17 (by decide) h (fun c h => ?_) (fun c h => ?_)
    · refine J_iload hX dX11_sparesOn_20 4 rfl ?_
      refine J_aload_n hX dX11_sparesOn_22 rfl 0 rfl ?_
      refine J_getR hX dX11_sparesOn_23 fl_RX11_83 (ltn ltc_78 hn) lo_78 rfl (rt_78_36 _ _ _ _ _) ?_
      refine J_iload hX dX11_sparesOn_26 5 rfl ?_
      refine J_iaload hX dX11_sparesOn_28 (ltn ltc_103 hn) lay_103 h (fun h => ?_)
      refine J_iload_n hX dX11_sparesOn_29 rfl 2 rfl ?_
      refine J_icmp_ne hX 37 dX11_sparesOn_30 (by decide) h (fun c h => ?_) (fun c h => ?_)
      · refine J_iconst hX (1 : Int32) dX11_sparesOn_33 ic_1 ?_
        refine J_goto hX 38 dX11_sparesOn_34 (by decide) ?_
        refine J_iadd hX dX11_sparesOn_38 ?_
        refine J_istore hX [(4, .int (v4 + (1 : Int32))), (0, .ref 78), (1, .int v1), (2, .int v2), (3, .int v3), (5, .int v5)] dX11_sparesOn_39 (by decide) rfl ?_
        refine J_iinc hX (v5 + (1 : Int32)) [(5, .int (v5 + (1 : Int32))), (4, .int (v4 + (1 : Int32))), (0, .ref 78), (1, .int v1), (2, .int v2), (3, .int v3)] dX11_sparesOn_41 5 rfl (congrArg (fun z => v5 + z) ic_1) (by decide) rfl ?_
        refine J_goto hX 9 dX11_sparesOn_44 (by decide) ?_
        refine J_sub [(0, .ref 78), (1, .int v1), (2, .int v2), (3, .int v3), (4, .int (v4 + (1 : Int32))), (5, .int (v5 + (1 : Int32)))] [2, 3, 4, 5, 1, 0] rfl ?_
        exact ih v1 v2 v3 (v4 + (1 : Int32)) (v5 + (1 : Int32)) m h
      · refine J_iconst hX (0 : Int32) dX11_sparesOn_37 ic_0 ?_
        refine J_iadd hX dX11_sparesOn_38 ?_
        refine J_istore hX [(4, .int (v4 + (0 : Int32))), (0, .ref 78), (1, .int v1), (2, .int v2), (3, .int v3), (5, .int v5)] dX11_sparesOn_39 (by decide) rfl ?_
        refine J_iinc hX (v5 + (1 : Int32)) [(5, .int (v5 + (1 : Int32))), (4, .int (v4 + (0 : Int32))), (0, .ref 78), (1, .int v1), (2, .int v2), (3, .int v3)] dX11_sparesOn_41 5 rfl (congrArg (fun z => v5 + z) ic_1) (by decide) rfl ?_
        refine J_goto hX 9 dX11_sparesOn_44 (by decide) ?_
        refine J_sub [(0, .ref 78), (1, .int v1), (2, .int v2), (3, .int v3), (4, .int (v4 + (0 : Int32))), (5, .int (v5 + (1 : Int32)))] [2, 3, 4, 5, 1, 0] rfl ?_
        exact ih v1 v2 v3 (v4 + (0 : Int32)) (v5 + (1 : Int32)) m h
    · refine J_iload hX dX11_sparesOn_47 4 rfl ?_
      exact J_ireturn hX dX11_sparesOn_49 h hF rfl
theorem t_X11_sparesOn {X : XX} {G : GG} {ρ : Nat → Nat} {n t u w v : Nat} {x : Option Nat} {d : Nat} (hX : Ok X G ρ cX11_sparesOn 6 RX11 d) (hd0 : 0 ≤ d) (hn : 126 ≤ n) {rE : Int32} {mE : Mm} (hF : Fin' X G ρ n (some .int) (some (.int rE)) (RT t u w v x) mE) {x1 : Int32} {x2 : Int32} {x3 : Int32} {m : Mm} (h : f_X11_sparesOn x1 x2 x3 m = some (rE, mE)) : J X G ρ n 6 0 [(0, .ref 78), (1, .int x1), (2, .int x2), (3, .int x3)] [] (RT t u w v x) m := by
  unfold f_X11_sparesOn at h
  refine J_iconst hX (0 : Int32) dX11_sparesOn_0 ic_0 ?_
  refine J_istore hX [(4, .int (0 : Int32)), (0, .ref 78), (1, .int x1), (2, .int x2), (3, .int x3)] dX11_sparesOn_1 (by decide) rfl ?_
  refine J_bipush hX (40 : Int32) dX11_sparesOn_3 (by decide) ?_
  refine J_iload_n hX dX11_sparesOn_5 rfl 2 rfl ?_
  refine J_imul hX dX11_sparesOn_6 ?_
  refine J_istore hX [(5, .int ((40 : Int32) * x1)), (4, .int (0 : Int32)), (0, .ref 78), (1, .int x1), (2, .int x2), (3, .int x3)] dX11_sparesOn_7 (by decide) rfl ?_
  refine J_sub [(0, .ref 78), (1, .int x1), (2, .int x2), (3, .int x3), (4, .int (0 : Int32)), (5, .int ((40 : Int32) * x1))] [2, 3, 4, 5, 1, 0] rfl ?_
  exact t_X11_sparesOn_L9 hX hd0 hn hF FU x1 x2 x3 (0 : Int32) ((40 : Int32) * x1)  m h
theorem c_X11_sparesOn {G : GG} {l : Launch} {ρ : Nat → Nat} {n t u w v : Nat} {x : Option Nat} (hn : 126 ≤ n) {x1 : Int32} {x2 : Int32} {x3 : Int32} {m : Mm} {rE : Int32} {mE : Mm} (h : f_X11_sparesOn x1 x2 x3 m = some (rE, mE)) : CT G l yX11_sparesOn cX11_sparesOn 6 (some .int) 0 0 0 ρ n (RT t u w v x) [.ref 78, .int x1, .int x2, .int x3] m (some (.int rE)) (RT t u w v x) mE := ct_of_J (by decide) rfl (Nat.le_of_ble_eq_true rfl) (fun X hX e1 e2 e3 e4 hQ hr hl => t_X11_sparesOn hX (Nat.le_refl _) hn ⟨by rw [hQ, e3, e4], hr, hl⟩ h)
theorem t_X11_laysSpare_L22 {X : XX} {G : GG} {ρ : Nat → Nat} {n t u w v : Nat} {x : Option Nat} {d : Nat} (hX : Ok X G ρ cX11_laysSpare 7 RX11 d) (hd0 : 2 ≤ d) (hn : 126 ≤ n) {mE : Mm} (hF : Fin' X G ρ n none none (RT t u w v x) mE) : ∀ (k : Nat) (v1 : Int32) (v2 : Int32) (v3 : Int32) (v4 : Int32) (v5 : Int32) (v6 : Int32) (m : Mm), f_X11_laysSpare_L22 k v1 v2 v3 v4 v5 v6 m = some mE → J X G ρ n 7 22 [(0, .ref 78), (1, .int v1), (2, .int v2), (3, .int v3), (4, .int v4), (5, .int v5), (6, .int v6)] [] (RT t u w v x) m := by
  intro k
  induction k with
  | zero => intro _ _ _ _ _ _ _ h; rw [f_X11_laysSpare_L22] at h; cases h
  | succ k ih =>
    intro v1 v2 v3 v4 v5 v6 m h
    rw [f_X11_laysSpare_L22] at h
    refine J_iload hX dX11_laysSpare_22 6 rfl ?_
    refine J_iload_n hX dX11_laysSpare_24 rfl 3 rfl ?_
    refine J_icmp_ge hX 73 dX11_laysSpare_25 (by decide) h (fun c h => ?_) (fun c h => ?_)
    · refine J_aload_n hX dX11_laysSpare_28 rfl 0 rfl ?_
      refine J_iload hX dX11_laysSpare_29 4 rfl ?_
      refine J_iload hX dX11_laysSpare_31 6 rfl ?_
      obtain ⟨r10, m9, h0, h⟩ := bd2_some h
      refine J_callVi (As := [.int v4, .int v6]) (st := []) hX dX11_laysSpare_33 cw_RX11_309 (by omega) (c_X11_unitOn hn  h0) (ltn ltc_78 hn) lo_78 (by decide) rfl rfl rfl (Nat.le_of_ble_eq_true rfl) ?_
      clear h0
      refine J_if_ge hX 67 dX11_laysSpare_36 (by decide) h (fun c h => ?_) (fun c h => ?_)
      · refine J_iload hX dX11_laysSpare_39 5 rfl ?_
        refine J_if_lt hX 63 dX11_laysSpare_41 (by decide) h (fun c h => ?_) (fun c h => ?_)
        · refine J_iload hX dX11_laysSpare_63 6 rfl ?_
          refine J_istore hX [(5, .int v6), (0, .ref 78), (1, .int v1), (2, .int v2), (3, .int v3), (4, .int v4), (6, .int v6)] dX11_laysSpare_65 (by decide) rfl ?_
          refine J_iinc hX (v6 + (1 : Int32)) [(6, .int (v6 + (1 : Int32))), (5, .int v6), (0, .ref 78), (1, .int v1), (2, .int v2), (3, .int v3), (4, .int v4)] dX11_laysSpare_67 6 rfl (congrArg (fun z => v6 + z) ic_1) (by decide) rfl ?_
          refine J_goto hX 22 dX11_laysSpare_70 (by decide) ?_
          refine J_sub [(0, .ref 78), (1, .int v1), (2, .int v2), (3, .int v3), (4, .int v4), (5, .int v6), (6, .int (v6 + (1 : Int32)))] [2, 3, 4, 5, 6, 1, 0] rfl ?_
          exact ih v1 v2 v3 v4 v6 (v6 + (1 : Int32)) m9 h
        · refine J_aload_n hX dX11_laysSpare_44 rfl 0 rfl ?_
          refine J_iload_n hX dX11_laysSpare_45 rfl 1 rfl ?_
          refine J_iload hX dX11_laysSpare_46 6 rfl ?_
          refine J_iload_n hX dX11_laysSpare_48 rfl 2 rfl ?_
          obtain ⟨r12, m11, h0, h⟩ := bd2_some h
          refine J_callVi (As := [.int v1, .int v6, .int v2]) (st := []) hX dX11_laysSpare_49 cw_RX11_312 (by omega) (c_X11_sparesOn hn  h0) (ltn ltc_78 hn) lo_78 (by decide) rfl rfl rfl (Nat.le_of_ble_eq_true rfl) ?_
          clear h0
          refine J_aload_n hX dX11_laysSpare_52 rfl 0 rfl ?_
          refine J_iload_n hX dX11_laysSpare_53 rfl 1 rfl ?_
          refine J_iload hX dX11_laysSpare_54 5 rfl ?_
          refine J_iload_n hX dX11_laysSpare_56 rfl 2 rfl ?_
          obtain ⟨r14, m13, h0, h⟩ := bd2_some h
          refine J_callVi (As := [.int v1, .int v5, .int v2]) (st := [.int r12]) hX dX11_laysSpare_57 cw_RX11_312 (by omega) (c_X11_sparesOn hn  h0) (ltn ltc_78 hn) lo_78 (by decide) rfl rfl rfl (Nat.le_of_ble_eq_true rfl) ?_
          clear h0
          refine J_icmp_ge hX 67 dX11_laysSpare_60 (by decide) h (fun c h => ?_) (fun c h => ?_)
          · refine J_iload hX dX11_laysSpare_63 6 rfl ?_
            refine J_istore hX [(5, .int v6), (0, .ref 78), (1, .int v1), (2, .int v2), (3, .int v3), (4, .int v4), (6, .int v6)] dX11_laysSpare_65 (by decide) rfl ?_
            refine J_iinc hX (v6 + (1 : Int32)) [(6, .int (v6 + (1 : Int32))), (5, .int v6), (0, .ref 78), (1, .int v1), (2, .int v2), (3, .int v3), (4, .int v4)] dX11_laysSpare_67 6 rfl (congrArg (fun z => v6 + z) ic_1) (by decide) rfl ?_
            refine J_goto hX 22 dX11_laysSpare_70 (by decide) ?_
            refine J_sub [(0, .ref 78), (1, .int v1), (2, .int v2), (3, .int v3), (4, .int v4), (5, .int v6), (6, .int (v6 + (1 : Int32)))] [2, 3, 4, 5, 6, 1, 0] rfl ?_
            exact ih v1 v2 v3 v4 v6 (v6 + (1 : Int32)) m13 h
          · refine J_iinc hX (v6 + (1 : Int32)) [(6, .int (v6 + (1 : Int32))), (0, .ref 78), (1, .int v1), (2, .int v2), (3, .int v3), (4, .int v4), (5, .int v5)] dX11_laysSpare_67 6 rfl (congrArg (fun z => v6 + z) ic_1) (by decide) rfl ?_
            refine J_goto hX 22 dX11_laysSpare_70 (by decide) ?_
            refine J_sub [(0, .ref 78), (1, .int v1), (2, .int v2), (3, .int v3), (4, .int v4), (5, .int v5), (6, .int (v6 + (1 : Int32)))] [1, 2, 3, 4, 5, 6, 0] rfl ?_
            exact ih v1 v2 v3 v4 v5 (v6 + (1 : Int32)) m13 h
      · refine J_iinc hX (v6 + (1 : Int32)) [(6, .int (v6 + (1 : Int32))), (0, .ref 78), (1, .int v1), (2, .int v2), (3, .int v3), (4, .int v4), (5, .int v5)] dX11_laysSpare_67 6 rfl (congrArg (fun z => v6 + z) ic_1) (by decide) rfl ?_
        refine J_goto hX 22 dX11_laysSpare_70 (by decide) ?_
        refine J_sub [(0, .ref 78), (1, .int v1), (2, .int v2), (3, .int v3), (4, .int v4), (5, .int v5), (6, .int (v6 + (1 : Int32)))] [1, 2, 3, 4, 5, 6, 0] rfl ?_
        exact ih v1 v2 v3 v4 v5 (v6 + (1 : Int32)) m9 h
    · refine J_aload_n hX dX11_laysSpare_73 rfl 0 rfl ?_
      refine J_getR hX dX11_laysSpare_74 fl_RX11_83 (ltn ltc_78 hn) lo_78 rfl (rt_78_36 _ _ _ _ _) ?_
      refine J_iload hX dX11_laysSpare_77 4 rfl ?_
      refine J_iload hX dX11_laysSpare_79 5 rfl ?_
      refine J_iastore hX dX11_laysSpare_81 (ltn ltc_103 hn) lay_103 h (fun m2 h => ?_)
      refine J_aload_n hX dX11_laysSpare_82 rfl 0 rfl ?_
      refine J_getR hX dX11_laysSpare_83 fl_RX11_86 (ltn ltc_78 hn) lo_78 rfl (rt_78_37 _ _ _ _ _) ?_
      refine J_iload hX dX11_laysSpare_86 4 rfl ?_
      refine J_iload hX dX11_laysSpare_88 5 rfl ?_
      refine J_if_ge hX 97 dX11_laysSpare_90 (by decide) h (fun c h => ?_) (fun c h => ?_)
      · refine J_iconst hX (-1 : Int32) dX11_laysSpare_93 ic_m1 ?_
        refine J_goto hX 119 dX11_laysSpare_94 (by decide) ?_
        refine J_iastore hX dX11_laysSpare_119 (ltn ltc_104 hn) lay_104 h (fun m8 h => ?_)
        exact J_return hX dX11_laysSpare_120 h hF
      · refine J_aload_n hX dX11_laysSpare_97 rfl 0 rfl ?_
        refine J_iload_n hX dX11_laysSpare_98 rfl 1 rfl ?_
        refine J_iload hX dX11_laysSpare_99 5 rfl ?_
        refine J_aload_n hX dX11_laysSpare_101 rfl 0 rfl ?_
        refine J_getR hX dX11_laysSpare_102 fl_RX11_71 (ltn ltc_78 hn) lo_78 rfl (rt_78_32 _ _ _ _ _) ?_
        refine J_iload_n hX dX11_laysSpare_105 rfl 1 rfl ?_
        refine J_iaload hX dX11_laysSpare_106 (ltn ltc_99 hn) lay_99 h (fun h => ?_)
        obtain ⟨r4, m3, h0, h⟩ := bd2_some h
        refine J_callVi (As := [.int v1, .int v5, .int (gI m2 99 (ix v1))]) (st := [.int v4, .ref 104]) hX dX11_laysSpare_107 cw_RX11_316 (by omega) (c_X11_unitsOn hn  h0) (ltn ltc_78 hn) lo_78 (by decide) rfl rfl rfl (Nat.le_of_ble_eq_true rfl) ?_
        clear h0
        refine J_aload_n hX dX11_laysSpare_110 rfl 0 rfl ?_
        refine J_iload_n hX dX11_laysSpare_111 rfl 1 rfl ?_
        refine J_iload hX dX11_laysSpare_112 5 rfl ?_
        refine J_iload_n hX dX11_laysSpare_114 rfl 2 rfl ?_
        obtain ⟨r6, m5, h0, h⟩ := bd2_some h
        refine J_callVi (As := [.int v1, .int v5, .int v2]) (st := [.int r4, .int v4, .ref 104]) hX dX11_laysSpare_115 cw_RX11_312 (by omega) (c_X11_sparesOn hn  h0) (ltn ltc_78 hn) lo_78 (by decide) rfl rfl rfl (Nat.le_of_ble_eq_true rfl) ?_
        clear h0
        refine J_iadd hX dX11_laysSpare_118 ?_
        refine J_iastore hX dX11_laysSpare_119 (ltn ltc_104 hn) lay_104 h (fun m7 h => ?_)
        exact J_return hX dX11_laysSpare_120 h hF
theorem t_X11_laysSpare {X : XX} {G : GG} {ρ : Nat → Nat} {n t u w v : Nat} {x : Option Nat} {d : Nat} (hX : Ok X G ρ cX11_laysSpare 7 RX11 d) (hd0 : 2 ≤ d) (hn : 126 ≤ n) {mE : Mm} (hF : Fin' X G ρ n none none (RT t u w v x) mE) {x1 : Int32} {x2 : Int32} {x3 : Int32} {m : Mm} (h : f_X11_laysSpare x1 x2 x3 m = some mE) : J X G ρ n 7 0 [(0, .ref 78), (1, .int x1), (2, .int x2), (3, .int x3)] [] (RT t u w v x) m := by
  unfold f_X11_laysSpare at h
  refine J_bipush hX (40 : Int32) dX11_laysSpare_0 (by decide) ?_
  refine J_iload_n hX dX11_laysSpare_2 rfl 1 rfl ?_
  refine J_imul hX dX11_laysSpare_3 ?_
  refine J_iload_n hX dX11_laysSpare_4 rfl 2 rfl ?_
  refine J_iadd hX dX11_laysSpare_5 ?_
  refine J_istore hX [(4, .int (((40 : Int32) * x1) + x2)), (0, .ref 78), (1, .int x1), (2, .int x2), (3, .int x3)] dX11_laysSpare_6 (by decide) rfl ?_
  refine J_aload_n hX dX11_laysSpare_8 rfl 1 rfl ?_
  refine J_getR hX dX11_laysSpare_9 fl_RX11_83 (ltn ltc_78 hn) lo_78 rfl (rt_78_36 _ _ _ _ _) ?_
  refine J_iload hX dX11_laysSpare_12 0 rfl ?_
  refine J_iconst hX (-1 : Int32) dX11_laysSpare_14 ic_m1 ?_
  refine J_iastore hX dX11_laysSpare_15 (ltn ltc_103 hn) lay_103 h (fun m1 h => ?_)
  refine J_iconst hX (-1 : Int32) dX11_laysSpare_16 ic_m1 ?_
  refine J_istore hX [(5, .int (-1 : Int32)), (4, .int (((40 : Int32) * x1) + x2)), (0, .ref 78), (1, .int x1), (2, .int x2), (3, .int x3)] dX11_laysSpare_17 (by decide) rfl ?_
  refine J_iconst hX (0 : Int32) dX11_laysSpare_19 ic_0 ?_
  refine J_istore hX [(6, .int (0 : Int32)), (5, .int (-1 : Int32)), (4, .int (((40 : Int32) * x1) + x2)), (0, .ref 78), (1, .int x1), (2, .int x2), (3, .int x3)] dX11_laysSpare_20 (by decide) rfl ?_
  refine J_sub [(0, .ref 78), (1, .int x1), (2, .int x2), (3, .int x3), (4, .int (((40 : Int32) * x1) + x2)), (5, .int (-1 : Int32)), (6, .int (0 : Int32))] [3, 4, 5, 6, 2, 1, 0] rfl ?_
  exact t_X11_laysSpare_L22 hX hd0 hn hF FU x1 x2 x3 (((40 : Int32) * x1) + x2) (-1 : Int32) (0 : Int32)  m1 h
theorem c_X11_laysSpare {G : GG} {l : Launch} {ρ : Nat → Nat} {n t u w v : Nat} {x : Option Nat} (hn : 126 ≤ n) {x1 : Int32} {x2 : Int32} {x3 : Int32} {m : Mm} {mE : Mm} (h : f_X11_laysSpare x1 x2 x3 m = some mE) : CT G l yX11_laysSpare cX11_laysSpare 7 none 2 0 0 ρ n (RT t u w v x) [.ref 78, .int x1, .int x2, .int x3] m none (RT t u w v x) mE := ct_of_J (by decide) rfl (Nat.le_of_ble_eq_true rfl) (fun X hX e1 e2 e3 e4 hQ hr hl => t_X11_laysSpare hX (Nat.le_refl _) hn ⟨by rw [hQ, e3, e4], hr, hl⟩ h)
theorem t_X11_readsAll_L65 {X : XX} {G : GG} {ρ : Nat → Nat} {n t u w v : Nat} {x : Option Nat} {d : Nat} (hX : Ok X G ρ cX11_readsAll 2 RX11 d) (hd0 : 4 ≤ d) (hn : 126 ≤ n) {rE : Int32} {mE : Mm} (hF : Fin' X G ρ n (some .boolean) (some (.int rE)) (RT t u w v x) mE) : ∀ (k : Nat) (m : Mm), f_X11_readsAll_L65 k m = some (rE, mE) → J X G ρ n 2 65 [(0, .ref 78)] [] (RT t u w v x) m := by
  intro k
  induction k with
  | zero => intro _ h; rw [f_X11_readsAll_L65] at h; cases h
  | succ k ih =>
    intro m h
    rw [f_X11_readsAll_L65] at h
    refine J_aload_n hX dX11_readsAll_65 rfl 0 rfl ?_
    refine J_getI hX dX11_readsAll_66 fl_RX11_177 (ltn ltc_78 hn) lo_78 rfl ?_
    refine J_if_eq hX 155 dX11_readsAll_69 (by decide) h (fun c h => ?_) (fun c h => ?_)
    · refine J_iconst hX (1 : Int32) dX11_readsAll_155 ic_1 ?_
      exact J_ireturn hX dX11_readsAll_156 h hF narrow_b1
    · refine J_aload_n hX dX11_readsAll_72 rfl 0 rfl ?_
      refine J_ldc2 hX (2317078 : Int64) dX11_readsAll_73 k_RX11_282 ?_
      obtain ⟨r7, m6, h0, h⟩ := bd2_some h
      refine J_callVi (As := [.long (2317078 : Int64)]) (st := []) hX dX11_readsAll_76 cw_RX11_208 (by omega) (c_X11_isWord hn  h0) (ltn ltc_78 hn) lo_78 (by decide) rfl rfl rfl (Nat.le_of_ble_eq_true rfl) ?_
      clear h0
      refine J_if_eq hX 89 dX11_readsAll_79 (by decide) h (fun c h => ?_) (fun c h => ?_)
      · refine J_aload_n hX dX11_readsAll_89 rfl 0 rfl ?_
        refine J_ldc2 hX (1310105 : Int64) dX11_readsAll_90 k_RX11_287 ?_
        obtain ⟨r9, m8, h0, h⟩ := bd2_some h
        refine J_callVi (As := [.long (1310105 : Int64)]) (st := []) hX dX11_readsAll_93 cw_RX11_208 (by omega) (c_X11_isWord hn  h0) (ltn ltc_78 hn) lo_78 (by decide) rfl rfl rfl (Nat.le_of_ble_eq_true rfl) ?_
        clear h0
        refine J_if_eq hX 106 dX11_readsAll_96 (by decide) h (fun c h => ?_) (fun c h => ?_)
        · refine J_aload_n hX dX11_readsAll_106 rfl 0 rfl ?_
          refine J_ldc2 hX (230475373 : Int64) dX11_readsAll_107 k_RX11_292 ?_
          obtain ⟨r11, m10, h0, h⟩ := bd2_some h
          refine J_callVi (As := [.long (230475373 : Int64)]) (st := []) hX dX11_readsAll_110 cw_RX11_208 (by omega) (c_X11_isWord hn  h0) (ltn ltc_78 hn) lo_78 (by decide) rfl rfl rfl (Nat.le_of_ble_eq_true rfl) ?_
          clear h0
          refine J_if_eq hX 123 dX11_readsAll_113 (by decide) h (fun c h => ?_) (fun c h => ?_)
          · refine J_aload_n hX dX11_readsAll_123 rfl 0 rfl ?_
            refine J_ldc2 hX (10416091 : Int64) dX11_readsAll_124 k_RX11_297 ?_
            obtain ⟨r13, m12, h0, h⟩ := bd2_some h
            refine J_callVi (As := [.long (10416091 : Int64)]) (st := []) hX dX11_readsAll_127 cw_RX11_208 (by omega) (c_X11_isWord hn  h0) (ltn ltc_78 hn) lo_78 (by decide) rfl rfl rfl (Nat.le_of_ble_eq_true rfl) ?_
            clear h0
            refine J_if_eq hX 140 dX11_readsAll_130 (by decide) h (fun c h => ?_) (fun c h => ?_)
            · refine J_aload_n hX dX11_readsAll_140 rfl 0 rfl ?_
              refine J_iconst hX (1 : Int32) dX11_readsAll_141 ic_1 ?_
              obtain ⟨r15, m14, h0, h⟩ := bd2_some h
              refine J_callVi (As := [.int (1 : Int32)]) (st := []) hX dX11_readsAll_142 cw_RX11_216 (by omega) (c_X11_fails hn  h0) (ltn ltc_78 hn) lo_78 (by decide) rfl rfl rfl (Nat.le_of_ble_eq_true rfl) ?_
              clear h0
              refine J_istore_n hX [(1, .int r15), (0, .ref 78)] dX11_readsAll_145 rfl (by decide) rfl ?_
              refine J_iload_n hX dX11_readsAll_146 rfl 0 rfl ?_
              refine J_if_ne hX 152 dX11_readsAll_147 (by decide) h (fun c h => ?_) (fun c h => ?_)
              · refine J_iconst hX (0 : Int32) dX11_readsAll_150 ic_0 ?_
                exact J_ireturn hX dX11_readsAll_151 h hF narrow_b0
              · refine J_goto hX 65 dX11_readsAll_152 (by decide) ?_
                refine J_sub [(0, .ref 78)] [1] rfl ?_
                exact ih  m14 h
            · refine J_aload_n hX dX11_readsAll_133 rfl 0 rfl ?_
              obtain ⟨r17, m16, h0, h⟩ := bd2_some h
              refine J_callVi (As := []) (st := []) hX dX11_readsAll_134 cw_RX11_299 (by omega) (c_X11_readsSpeed hn  h0) (ltn ltc_78 hn) lo_78 (by decide) rfl rfl rfl (Nat.le_of_ble_eq_true rfl) ?_
              clear h0
              refine J_goto hX 145 dX11_readsAll_137 (by decide) ?_
              refine J_istore_n hX [(1, .int r17), (0, .ref 78)] dX11_readsAll_145 rfl (by decide) rfl ?_
              refine J_iload_n hX dX11_readsAll_146 rfl 0 rfl ?_
              refine J_if_ne hX 152 dX11_readsAll_147 (by decide) h (fun c h => ?_) (fun c h => ?_)
              · refine J_iconst hX (0 : Int32) dX11_readsAll_150 ic_0 ?_
                exact J_ireturn hX dX11_readsAll_151 h hF narrow_b0
              · refine J_goto hX 65 dX11_readsAll_152 (by decide) ?_
                refine J_sub [(0, .ref 78)] [1] rfl ?_
                exact ih  m16 h
          · refine J_aload_n hX dX11_readsAll_116 rfl 0 rfl ?_
            obtain ⟨r19, m18, h0, h⟩ := bd2_some h
            refine J_callVi (As := []) (st := []) hX dX11_readsAll_117 cw_RX11_294 (by omega) (c_X11_readsParity hn  h0) (ltn ltc_78 hn) lo_78 (by decide) rfl rfl rfl (Nat.le_of_ble_eq_true rfl) ?_
            clear h0
            refine J_goto hX 145 dX11_readsAll_120 (by decide) ?_
            refine J_istore_n hX [(1, .int r19), (0, .ref 78)] dX11_readsAll_145 rfl (by decide) rfl ?_
            refine J_iload_n hX dX11_readsAll_146 rfl 0 rfl ?_
            refine J_if_ne hX 152 dX11_readsAll_147 (by decide) h (fun c h => ?_) (fun c h => ?_)
            · refine J_iconst hX (0 : Int32) dX11_readsAll_150 ic_0 ?_
              exact J_ireturn hX dX11_readsAll_151 h hF narrow_b0
            · refine J_goto hX 65 dX11_readsAll_152 (by decide) ?_
              refine J_sub [(0, .ref 78)] [1] rfl ?_
              exact ih  m18 h
        · refine J_aload_n hX dX11_readsAll_99 rfl 0 rfl ?_
          obtain ⟨r21, m20, h0, h⟩ := bd2_some h
          refine J_callVi (As := []) (st := []) hX dX11_readsAll_100 cw_RX11_289 (by omega) (c_X11_readsBlock hn  h0) (ltn ltc_78 hn) lo_78 (by decide) rfl rfl rfl (Nat.le_of_ble_eq_true rfl) ?_
          clear h0
          refine J_goto hX 145 dX11_readsAll_103 (by decide) ?_
          refine J_istore_n hX [(1, .int r21), (0, .ref 78)] dX11_readsAll_145 rfl (by decide) rfl ?_
          refine J_iload_n hX dX11_readsAll_146 rfl 0 rfl ?_
          refine J_if_ne hX 152 dX11_readsAll_147 (by decide) h (fun c h => ?_) (fun c h => ?_)
          · refine J_iconst hX (0 : Int32) dX11_readsAll_150 ic_0 ?_
            exact J_ireturn hX dX11_readsAll_151 h hF narrow_b0
          · refine J_goto hX 65 dX11_readsAll_152 (by decide) ?_
            refine J_sub [(0, .ref 78)] [1] rfl ?_
            exact ih  m20 h
      · refine J_aload_n hX dX11_readsAll_82 rfl 0 rfl ?_
        obtain ⟨r23, m22, h0, h⟩ := bd2_some h
        refine J_callVi (As := []) (st := []) hX dX11_readsAll_83 cw_RX11_284 (by omega) (c_X11_readsDisks hn  h0) (ltn ltc_78 hn) lo_78 (by decide) rfl rfl rfl (Nat.le_of_ble_eq_true rfl) ?_
        clear h0
        refine J_goto hX 145 dX11_readsAll_86 (by decide) ?_
        refine J_istore_n hX [(1, .int r23), (0, .ref 78)] dX11_readsAll_145 rfl (by decide) rfl ?_
        refine J_iload_n hX dX11_readsAll_146 rfl 0 rfl ?_
        refine J_if_ne hX 152 dX11_readsAll_147 (by decide) h (fun c h => ?_) (fun c h => ?_)
        · refine J_iconst hX (0 : Int32) dX11_readsAll_150 ic_0 ?_
          exact J_ireturn hX dX11_readsAll_151 h hF narrow_b0
        · refine J_goto hX 65 dX11_readsAll_152 (by decide) ?_
          refine J_sub [(0, .ref 78)] [1] rfl ?_
          exact ih  m22 h
theorem t_X11_readsAll_L2 {X : XX} {G : GG} {ρ : Nat → Nat} {n t u w v : Nat} {x : Option Nat} {d : Nat} (hX : Ok X G ρ cX11_readsAll 2 RX11 d) (hd0 : 4 ≤ d) (hn : 126 ≤ n) {rE : Int32} {mE : Mm} (hF : Fin' X G ρ n (some .boolean) (some (.int rE)) (RT t u w v x) mE) : ∀ (k : Nat) (v1 : Int32) (m : Mm), f_X11_readsAll_L2 k v1 m = some (rE, mE) → J X G ρ n 2 2 [(0, .ref 78), (1, .int v1)] [] (RT t u w v x) m := by
  intro k
  induction k with
  | zero => intro _ _ h; rw [f_X11_readsAll_L2] at h; cases h
  | succ k ih =>
    intro v1 m h
    rw [f_X11_readsAll_L2] at h
    refine J_iload_n hX dX11_readsAll_2 rfl 1 rfl ?_
    refine J_iconst hX (3 : Int32) dX11_readsAll_3 ic_3 ?_
    refine J_icmp_ge hX 31 dX11_readsAll_4 (by decide) h (fun c h => ?_) (fun c h => ?_)
    · refine J_aload_n hX dX11_readsAll_7 rfl 0 rfl ?_
      refine J_getR hX dX11_readsAll_8 fl_RX11_13 (ltn ltc_78 hn) lo_78 rfl (rt_78_10 _ _ _ _ _) ?_
      refine J_iconst hX (3 : Int32) dX11_readsAll_11 ic_3 ?_
      refine J_iload_n hX dX11_readsAll_12 rfl 1 rfl ?_
      refine J_iadd hX dX11_readsAll_13 ?_
      refine J_iload_n hX dX11_readsAll_14 rfl 1 rfl ?_
      refine J_iconst hX (2 : Int32) dX11_readsAll_15 ic_2 ?_
      refine J_icmp_ne hX 23 dX11_readsAll_16 (by decide) h (fun c h => ?_) (fun c h => ?_)
      · refine J_iconst hX (4 : Int32) dX11_readsAll_19 ic_4 ?_
        refine J_goto hX 24 dX11_readsAll_20 (by decide) ?_
        refine J_iastore hX dX11_readsAll_24 (ltn ltc_80 hn) lay_80 h (fun m25 h => ?_)
        refine J_iinc hX (v1 + (1 : Int32)) [(1, .int (v1 + (1 : Int32))), (0, .ref 78)] dX11_readsAll_25 1 rfl (congrArg (fun z => v1 + z) ic_1) (by decide) rfl ?_
        refine J_goto hX 2 dX11_readsAll_28 (by decide) ?_
        refine J_sub [(0, .ref 78), (1, .int (v1 + (1 : Int32)))] [1, 0] rfl ?_
        exact ih (v1 + (1 : Int32)) m25 h
      · refine J_iconst hX (0 : Int32) dX11_readsAll_23 ic_0 ?_
        refine J_iastore hX dX11_readsAll_24 (ltn ltc_80 hn) lay_80 h (fun m24 h => ?_)
        refine J_iinc hX (v1 + (1 : Int32)) [(1, .int (v1 + (1 : Int32))), (0, .ref 78)] dX11_readsAll_25 1 rfl (congrArg (fun z => v1 + z) ic_1) (by decide) rfl ?_
        refine J_goto hX 2 dX11_readsAll_28 (by decide) ?_
        refine J_sub [(0, .ref 78), (1, .int (v1 + (1 : Int32)))] [1, 0] rfl ?_
        exact ih (v1 + (1 : Int32)) m24 h
    · refine J_aload_n hX dX11_readsAll_31 rfl 0 rfl ?_
      refine J_iconst hX (0 : Int32) dX11_readsAll_32 ic_0 ?_
      refine J_putI hX dX11_readsAll_33 pl_RX11_254 (ltn ltc_78 hn) lo_78 rfl narrow_b0 rfl h (fun m1 h => ?_)
      refine J_aload_n hX dX11_readsAll_36 rfl 0 rfl ?_
      refine J_getR hX dX11_readsAll_37 fl_RX11_25 (ltn ltc_78 hn) lo_78 rfl (rt_78_14 _ _ _ _ _) ?_
      refine J_iconst hX (1 : Int32) dX11_readsAll_40 ic_1 ?_
      refine J_sipush hX (1000 : Int32) dX11_readsAll_41 (by decide) ?_
      refine J_iastore0 hX dX11_readsAll_44 (ltn ltc_84 hn) lay_84 (by decide) h (fun m2 h => ?_)
      refine J_aload_n hX dX11_readsAll_45 rfl 0 rfl ?_
      refine J_getR hX dX11_readsAll_46 fl_RX11_28 (ltn ltc_78 hn) lo_78 rfl (rt_78_15 _ _ _ _ _) ?_
      refine J_iconst hX (1 : Int32) dX11_readsAll_49 ic_1 ?_
      refine J_sipush hX (1000 : Int32) dX11_readsAll_50 (by decide) ?_
      refine J_iastore0 hX dX11_readsAll_53 (ltn ltc_85 hn) lay_85 (by decide) h (fun m3 h => ?_)
      refine J_aload_n hX dX11_readsAll_54 rfl 0 rfl ?_
      refine J_sipush hX (1000 : Int32) dX11_readsAll_55 (by decide) ?_
      refine J_putI hX dX11_readsAll_58 pl_RX11_191 (ltn ltc_78 hn) lo_78 rfl rfl rfl h (fun m4 h => ?_)
      refine J_aload_n hX dX11_readsAll_61 rfl 0 rfl ?_
      obtain ⟨m5, h0, h⟩ := bd1_some h
      refine J_callVv (As := []) (st := []) hX dX11_readsAll_62 cw_RX11_279 (by omega) (c_X11_begins hn  h0) (ltn ltc_78 hn) lo_78 (by decide) rfl rfl rfl (Nat.le_of_ble_eq_true rfl) ?_
      clear h0
      refine J_sub [(0, .ref 78)] [0] rfl ?_
      exact t_X11_readsAll_L65 hX hd0 hn hF FU   m5 h
theorem t_X11_readsAll {X : XX} {G : GG} {ρ : Nat → Nat} {n t u w v : Nat} {x : Option Nat} {d : Nat} (hX : Ok X G ρ cX11_readsAll 2 RX11 d) (hd0 : 4 ≤ d) (hn : 126 ≤ n) {rE : Int32} {mE : Mm} (hF : Fin' X G ρ n (some .boolean) (some (.int rE)) (RT t u w v x) mE) {m : Mm} (h : f_X11_readsAll m = some (rE, mE)) : J X G ρ n 2 0 [(0, .ref 78)] [] (RT t u w v x) m := by
  unfold f_X11_readsAll at h
  refine J_iconst hX (0 : Int32) dX11_readsAll_0 ic_0 ?_
  refine J_istore_n hX [(1, .int (0 : Int32)), (0, .ref 78)] dX11_readsAll_1 rfl (by decide) rfl ?_
  refine J_sub [(0, .ref 78), (1, .int (0 : Int32))] [1, 0] rfl ?_
  exact t_X11_readsAll_L2 hX hd0 hn hF FU (0 : Int32)  m h
theorem c_X11_readsAll {G : GG} {l : Launch} {ρ : Nat → Nat} {n t u w v : Nat} {x : Option Nat} (hn : 126 ≤ n) {m : Mm} {rE : Int32} {mE : Mm} (h : f_X11_readsAll m = some (rE, mE)) : CT G l yX11_readsAll cX11_readsAll 2 (some .boolean) 4 0 0 ρ n (RT t u w v x) [.ref 78] m (some (.int rE)) (RT t u w v x) mE := ct_of_J (by decide) rfl (Nat.le_of_ble_eq_true rfl) (fun X hX e1 e2 e3 e4 hQ hr hl => t_X11_readsAll hX (Nat.le_refl _) hn ⟨by rw [hQ, e3, e4], hr, hl⟩ h)
theorem t_X11_shifts_L2 {X : XX} {G : GG} {ρ : Nat → Nat} {n t u w v : Nat} {x : Option Nat} {d : Nat} {p0 : Nat} (hX : Ok X G ρ cX11_shifts 3 RX11 d) (hd0 : 0 ≤ d) (hn : 126 ≤ n) (hp0 : isIa p0) {mE : Mm} (hF : Fin' X G ρ n none none (RT t u w v x) mE) : ∀ (k : Nat) (v1 : Int32) (v2 : Int32) (m : Mm), f_X11_shifts_L2 p0 k v1 v2 m = some mE → J X G ρ n 3 2 [(0, .ref p0), (1, .int v1), (2, .int v2)] [] (RT t u w v x) m := by
  intro k
  induction k with
  | zero => intro _ _ _ h; rw [f_X11_shifts_L2] at h; cases h
  | succ k ih =>
    intro v1 v2 m h
    rw [f_X11_shifts_L2] at h
    refine J_iload_n hX dX11_shifts_2 rfl 2 rfl ?_
    refine J_iload_n hX dX11_shifts_3 rfl 1 rfl ?_
    refine J_icmp_ge hX 21 dX11_shifts_4 (by decide) h (fun c h => ?_) (fun c h => ?_)
    · refine J_aload_n hX dX11_shifts_7 rfl 0 rfl ?_
      refine J_iload_n hX dX11_shifts_8 rfl 2 rfl ?_
      refine J_aload_n hX dX11_shifts_9 rfl 0 rfl ?_
      refine J_iload_n hX dX11_shifts_10 rfl 1 rfl ?_
      refine J_iload_n hX dX11_shifts_11 rfl 2 rfl ?_
      refine J_iadd hX dX11_shifts_12 ?_
      refine J_iaload hX dX11_shifts_13 (ltn hp0.2 hn) (layIa hp0) h (fun h => ?_)
      refine J_iastore hX dX11_shifts_14 (ltn hp0.2 hn) (layIa hp0) h (fun m1 h => ?_)
      refine J_iinc hX (v2 + (1 : Int32)) [(2, .int (v2 + (1 : Int32))), (0, .ref p0), (1, .int v1)] dX11_shifts_15 2 rfl (congrArg (fun z => v2 + z) ic_1) (by decide) rfl ?_
      refine J_goto hX 2 dX11_shifts_18 (by decide) ?_
      refine J_sub [(0, .ref p0), (1, .int v1), (2, .int (v2 + (1 : Int32)))] [1, 2, 0] rfl ?_
      exact ih v1 (v2 + (1 : Int32)) m1 h
    · exact J_return hX dX11_shifts_21 h hF
theorem t_X11_shifts {X : XX} {G : GG} {ρ : Nat → Nat} {n t u w v : Nat} {x : Option Nat} {d : Nat} {p0 : Nat} (hX : Ok X G ρ cX11_shifts 3 RX11 d) (hd0 : 0 ≤ d) (hn : 126 ≤ n) (hp0 : isIa p0) {mE : Mm} (hF : Fin' X G ρ n none none (RT t u w v x) mE) {x1 : Int32} {m : Mm} (h : f_X11_shifts p0 x1 m = some mE) : J X G ρ n 3 0 [(0, .ref p0), (1, .int x1)] [] (RT t u w v x) m := by
  unfold f_X11_shifts at h
  refine J_iconst hX (0 : Int32) dX11_shifts_0 ic_0 ?_
  refine J_istore_n hX [(2, .int (0 : Int32)), (0, .ref p0), (1, .int x1)] dX11_shifts_1 rfl (by decide) rfl ?_
  refine J_sub [(0, .ref p0), (1, .int x1), (2, .int (0 : Int32))] [1, 2, 0] rfl ?_
  exact t_X11_shifts_L2 hX hd0 hn hp0 hF FU x1 (0 : Int32)  m h
theorem c_X11_shifts {G : GG} {l : Launch} {ρ : Nat → Nat} {n t u w v : Nat} {x : Option Nat} (hn : 126 ≤ n) {p0 : Nat} (hp0 : isIa p0) {x1 : Int32} {m : Mm} {mE : Mm} (h : f_X11_shifts p0 x1 m = some mE) : CT G l yX11_shifts cX11_shifts 3 none 0 0 0 ρ n (RT t u w v x) [.ref p0, .int x1] m none (RT t u w v x) mE := ct_of_J (by decide) rfl (Nat.le_of_ble_eq_true rfl) (fun X hX e1 e2 e3 e4 hQ hr hl => t_X11_shifts hX (Nat.le_refl _) hn hp0 ⟨by rw [hQ, e3, e4], hr, hl⟩ h)
theorem t_X11_lays {X : XX} {G : GG} {ρ : Nat → Nat} {n t u w v : Nat} {x : Option Nat} {d : Nat} (hX : Ok X G ρ cX11_lays 1 RX11 d) (hd0 : 1 ≤ d) (hn : 126 ≤ n) {mE : Mm} (hF : Fin' X G ρ n none none (RT t u w v x) mE) {m : Mm} (h : f_X11_lays m = some mE) : J X G ρ n 1 0 [(0, .ref 78)] [] (RT t u w v x) m := by
  unfold f_X11_lays at h
  refine J_aload_n hX dX11_lays_0 rfl 0 rfl ?_
  refine J_getR hX dX11_lays_1 fl_RX11_13 (ltn ltc_78 hn) lo_78 rfl (rt_78_10 _ _ _ _ _) ?_
  refine J_iconst hX (3 : Int32) dX11_lays_4 ic_3 ?_
  obtain ⟨m1, h0, h⟩ := bd1_some h
  refine J_callSv (As := [.ref 80, .int (3 : Int32)]) (st := []) hX dX11_lays_5 cw_RX11_302 (by omega) (c_X11_shifts hn p_isIa_80 h0) rfl rfl (Nat.le_of_ble_eq_true rfl) ?_
  clear h0
  refine J_aload_n hX dX11_lays_8 rfl 0 rfl ?_
  refine J_getR hX dX11_lays_9 fl_RX11_16 (ltn ltc_78 hn) lo_78 rfl (rt_78_11 _ _ _ _ _) ?_
  refine J_bipush hX (6 : Int32) dX11_lays_12 (by decide) ?_
  obtain ⟨m2, h0, h⟩ := bd1_some h
  refine J_callSv (As := [.ref 81, .int (6 : Int32)]) (st := []) hX dX11_lays_14 cw_RX11_302 (by omega) (c_X11_shifts hn p_isIa_81 h0) rfl rfl (Nat.le_of_ble_eq_true rfl) ?_
  clear h0
  refine J_aload_n hX dX11_lays_17 rfl 0 rfl ?_
  refine J_getR hX dX11_lays_18 fl_RX11_19 (ltn ltc_78 hn) lo_78 rfl (rt_78_12 _ _ _ _ _) ?_
  refine J_bipush hX (6 : Int32) dX11_lays_21 (by decide) ?_
  obtain ⟨m3, h0, h⟩ := bd1_some h
  refine J_callSv (As := [.ref 82, .int (6 : Int32)]) (st := []) hX dX11_lays_23 cw_RX11_302 (by omega) (c_X11_shifts hn p_isIa_82 h0) rfl rfl (Nat.le_of_ble_eq_true rfl) ?_
  clear h0
  refine J_aload_n hX dX11_lays_26 rfl 0 rfl ?_
  refine J_getR hX dX11_lays_27 fl_RX11_22 (ltn ltc_78 hn) lo_78 rfl (rt_78_13 _ _ _ _ _) ?_
  refine J_bipush hX (30 : Int32) dX11_lays_30 (by decide) ?_
  obtain ⟨m4, h0, h⟩ := bd1_some h
  refine J_callSv (As := [.ref 83, .int (30 : Int32)]) (st := []) hX dX11_lays_32 cw_RX11_302 (by omega) (c_X11_shifts hn p_isIa_83 h0) rfl rfl (Nat.le_of_ble_eq_true rfl) ?_
  clear h0
  refine J_aload_n hX dX11_lays_35 rfl 0 rfl ?_
  refine J_getR hX dX11_lays_36 fl_RX11_31 (ltn ltc_78 hn) lo_78 rfl (rt_78_16 _ _ _ _ _) ?_
  refine J_sipush hX (1000 : Int32) dX11_lays_39 (by decide) ?_
  obtain ⟨m5, h0, h⟩ := bd1_some h
  refine J_callSv (As := [.ref 86, .int (1000 : Int32)]) (st := []) hX dX11_lays_42 cw_RX11_302 (by omega) (c_X11_shifts hn p_isIa_86 h0) rfl rfl (Nat.le_of_ble_eq_true rfl) ?_
  clear h0
  refine J_aload_n hX dX11_lays_45 rfl 0 rfl ?_
  refine J_getR hX dX11_lays_46 fl_RX11_25 (ltn ltc_78 hn) lo_78 rfl (rt_78_14 _ _ _ _ _) ?_
  refine J_iconst hX (0 : Int32) dX11_lays_49 ic_0 ?_
  refine J_aload_n hX dX11_lays_50 rfl 0 rfl ?_
  refine J_getR hX dX11_lays_51 fl_RX11_25 (ltn ltc_78 hn) lo_78 rfl (rt_78_14 _ _ _ _ _) ?_
  refine J_iconst hX (1 : Int32) dX11_lays_54 ic_1 ?_
  refine J_iaload0 hX dX11_lays_55 (ltn ltc_84 hn) lay_84 (by decide) ?_
  refine J_sipush hX (1000 : Int32) dX11_lays_56 (by decide) ?_
  refine J_isub hX dX11_lays_59 ?_
  refine J_iastore0 hX dX11_lays_60 (ltn ltc_84 hn) lay_84 (by decide) h (fun m6 h => ?_)
  refine J_aload_n hX dX11_lays_61 rfl 0 rfl ?_
  refine J_getR hX dX11_lays_62 fl_RX11_28 (ltn ltc_78 hn) lo_78 rfl (rt_78_15 _ _ _ _ _) ?_
  refine J_iconst hX (0 : Int32) dX11_lays_65 ic_0 ?_
  refine J_aload_n hX dX11_lays_66 rfl 0 rfl ?_
  refine J_getR hX dX11_lays_67 fl_RX11_28 (ltn ltc_78 hn) lo_78 rfl (rt_78_15 _ _ _ _ _) ?_
  refine J_iconst hX (1 : Int32) dX11_lays_70 ic_1 ?_
  refine J_iaload0 hX dX11_lays_71 (ltn ltc_85 hn) lay_85 (by decide) ?_
  refine J_sipush hX (1000 : Int32) dX11_lays_72 (by decide) ?_
  refine J_isub hX dX11_lays_75 ?_
  refine J_iastore0 hX dX11_lays_76 (ltn ltc_85 hn) lay_85 (by decide) h (fun m7 h => ?_)
  exact J_return hX dX11_lays_77 h hF
theorem c_X11_lays {G : GG} {l : Launch} {ρ : Nat → Nat} {n t u w v : Nat} {x : Option Nat} (hn : 126 ≤ n) {m : Mm} {mE : Mm} (h : f_X11_lays m = some mE) : CT G l yX11_lays cX11_lays 1 none 1 0 0 ρ n (RT t u w v x) [.ref 78] m none (RT t u w v x) mE := ct_of_J (by decide) rfl (Nat.le_of_ble_eq_true rfl) (fun X hX e1 e2 e3 e4 hQ hr hl => t_X11_lays hX (Nat.le_refl _) hn ⟨by rw [hQ, e3, e4], hr, hl⟩ h)
theorem t_X11_laysAll_L259 {X : XX} {G : GG} {ρ : Nat → Nat} {n t u w v : Nat} {x : Option Nat} {d : Nat} (hX : Ok X G ρ cX11_laysAll 6 RX11 d) (hd0 : 4 ≤ d) (hn : 126 ≤ n) {mE : Mm} (hF : Fin' X G ρ n none none (RT t u w v x) mE) : ∀ (k : Nat) (v1 : Int32) (v2 : Int32) (v3 : Int32) (m : Mm), f_X11_laysAll_L259 k v1 v2 v3 m = some mE → J X G ρ n 6 259 [(0, .ref 78), (1, .int v1), (2, .int v2), (3, .int v3)] [] (RT t u w v x) m := by
  intro k
  induction k with
  | zero => intro _ _ _ _ h; rw [f_X11_laysAll_L259] at h; cases h
  | succ k ih =>
    intro v1 v2 v3 m h
    rw [f_X11_laysAll_L259] at h
    refine J_iload_n hX dX11_laysAll_259 rfl 3 rfl ?_
    refine J_aload_n hX dX11_laysAll_260 rfl 0 rfl ?_
    refine J_getR hX dX11_laysAll_261 fl_RX11_71 (ltn ltc_78 hn) lo_78 rfl (rt_78_32 _ _ _ _ _) ?_
    refine J_iload_n hX dX11_laysAll_264 rfl 1 rfl ?_
    refine J_iaload hX dX11_laysAll_265 (ltn ltc_99 hn) lay_99 h (fun h => ?_)
    refine J_icmp_ge hX 282 dX11_laysAll_266 (by decide) h (fun c h => ?_) (fun c h => ?_)
    · refine J_aload_n hX dX11_laysAll_269 rfl 0 rfl ?_
      refine J_iload_n hX dX11_laysAll_270 rfl 1 rfl ?_
      refine J_iload_n hX dX11_laysAll_271 rfl 3 rfl ?_
      refine J_iload_n hX dX11_laysAll_272 rfl 2 rfl ?_
      obtain ⟨m3, h0, h⟩ := bd1_some h
      refine J_callVv (As := [.int v1, .int v3, .int v2]) (st := []) hX dX11_laysAll_273 cw_RX11_323 (by omega) (c_X11_laysSpare hn  h0) (ltn ltc_78 hn) lo_78 (by decide) rfl rfl rfl (Nat.le_of_ble_eq_true rfl) ?_
      clear h0
      refine J_iinc hX (v3 + (1 : Int32)) [(3, .int (v3 + (1 : Int32))), (0, .ref 78), (1, .int v1), (2, .int v2)] dX11_laysAll_276 3 rfl (congrArg (fun z => v3 + z) ic_1) (by decide) rfl ?_
      refine J_goto hX 259 dX11_laysAll_279 (by decide) ?_
      refine J_sub [(0, .ref 78), (1, .int v1), (2, .int v2), (3, .int (v3 + (1 : Int32)))] [1, 2, 3, 0] rfl ?_
      exact ih v1 v2 (v3 + (1 : Int32)) m3 h
    · exact J_return hX dX11_laysAll_282 h hF
theorem t_X11_laysAll_L123 {X : XX} {G : GG} {ρ : Nat → Nat} {n t u w v : Nat} {x : Option Nat} {d : Nat} (hX : Ok X G ρ cX11_laysAll 6 RX11 d) (hd0 : 4 ≤ d) (hn : 126 ≤ n) {mE : Mm} (hF : Fin' X G ρ n none none (RT t u w v x) mE) {v1 : Int32} {v2 : Int32} {v3 : Int32} {v4 : Int32} {K : Mm → Option (Mm)} (hK : ∀ (m : Mm), K m = some mE → J X G ρ n 6 251 [(0, .ref 78), (1, .int v1), (2, .int v2), (3, .int v3)] [] (RT t u w v x) m) : ∀ (k : Nat) (v5 : Int32) (m : Mm), f_X11_laysAll_L123 v1 v2 v3 v4 K k v5 m = some mE → J X G ρ n 6 123 [(0, .ref 78), (1, .int v1), (2, .int v2), (3, .int v3), (4, .int v4), (5, .int v5)] [] (RT t u w v x) m := by
  intro k
  induction k with
  | zero => intro _ _ h; rw [f_X11_laysAll_L123] at h; cases h
  | succ k ih =>
    intro v5 m h
    rw [f_X11_laysAll_L123] at h
    refine J_iload hX dX11_laysAll_123 5 rfl ?_
    refine J_aload_n hX dX11_laysAll_125 rfl 0 rfl ?_
    refine J_getR hX dX11_laysAll_126 fl_RX11_74 (ltn ltc_78 hn) lo_78 rfl (rt_78_33 _ _ _ _ _) ?_
    refine J_iload hX dX11_laysAll_129 4 rfl ?_
    refine J_iaload hX dX11_laysAll_131 (ltn ltc_100 hn) lay_100 h (fun h => ?_)
    refine J_icmp_ge hX 251 dX11_laysAll_132 (by decide) h (fun c h => ?_) (fun c h => ?_)
    · refine J_aload_n hX dX11_laysAll_135 rfl 0 rfl ?_
      refine J_getR hX dX11_laysAll_136 fl_RX11_92 (ltn ltc_78 hn) lo_78 rfl (rt_78_39 _ _ _ _ _) ?_
      refine J_iconst hX (5 : Int32) dX11_laysAll_139 ic_5 ?_
      refine J_iload hX dX11_laysAll_140 4 rfl ?_
      refine J_imul hX dX11_laysAll_142 ?_
      refine J_iload hX dX11_laysAll_143 5 rfl ?_
      refine J_iadd hX dX11_laysAll_145 ?_
      refine J_aload_n hX dX11_laysAll_146 rfl 0 rfl ?_
      refine J_iload_n hX dX11_laysAll_147 rfl 1 rfl ?_
      refine J_aload_n hX dX11_laysAll_148 rfl 0 rfl ?_
      refine J_getR hX dX11_laysAll_149 fl_RX11_89 (ltn ltc_78 hn) lo_78 rfl (rt_78_38 _ _ _ _ _) ?_
      refine J_iconst hX (5 : Int32) dX11_laysAll_152 ic_5 ?_
      refine J_iload hX dX11_laysAll_153 4 rfl ?_
      refine J_imul hX dX11_laysAll_155 ?_
      refine J_iload hX dX11_laysAll_156 5 rfl ?_
      refine J_iadd hX dX11_laysAll_158 ?_
      refine J_iaload hX dX11_laysAll_159 (ltn ltc_105 hn) lay_105 h (fun h => ?_)
      refine J_iload_n hX dX11_laysAll_160 rfl 3 rfl ?_
      obtain ⟨r5, m4, h0, h⟩ := bd2_some h
      refine J_callVi (As := [.int v1, .int (gI m 105 (ix (((5 : Int32) * v4) + v5))), .int v3]) (st := [.int (((5 : Int32) * v4) + v5), .ref 106]) hX dX11_laysAll_161 cw_RX11_316 (by omega) (c_X11_unitsOn hn  h0) (ltn ltc_78 hn) lo_78 (by decide) rfl rfl rfl (Nat.le_of_ble_eq_true rfl) ?_
      clear h0
      refine J_iastore hX dX11_laysAll_164 (ltn ltc_106 hn) lay_106 h (fun m6 h => ?_)
      refine J_aload_n hX dX11_laysAll_165 rfl 0 rfl ?_
      refine J_getR hX dX11_laysAll_166 fl_RX11_101 (ltn ltc_78 hn) lo_78 rfl (rt_78_42 _ _ _ _ _) ?_
      refine J_iconst hX (5 : Int32) dX11_laysAll_169 ic_5 ?_
      refine J_iload hX dX11_laysAll_170 4 rfl ?_
      refine J_imul hX dX11_laysAll_172 ?_
      refine J_iload hX dX11_laysAll_173 5 rfl ?_
      refine J_iadd hX dX11_laysAll_175 ?_
      refine J_iconst hX (-1 : Int32) dX11_laysAll_176 ic_m1 ?_
      refine J_iastore hX dX11_laysAll_177 (ltn ltc_109 hn) lay_109 h (fun m7 h => ?_)
      refine J_iload hX dX11_laysAll_178 5 rfl ?_
      refine J_aload_n hX dX11_laysAll_180 rfl 0 rfl ?_
      refine J_getR hX dX11_laysAll_181 fl_RX11_80 (ltn ltc_78 hn) lo_78 rfl (rt_78_35 _ _ _ _ _) ?_
      refine J_iload hX dX11_laysAll_184 4 rfl ?_
      refine J_iaload hX dX11_laysAll_186 (ltn ltc_102 hn) lay_102 h (fun h => ?_)
      refine J_icmp_ne hX 193 dX11_laysAll_187 (by decide) h (fun c h => ?_) (fun c h => ?_)
      · refine J_goto hX 245 dX11_laysAll_190 (by decide) ?_
        refine J_iinc hX (v5 + (1 : Int32)) [(5, .int (v5 + (1 : Int32))), (0, .ref 78), (1, .int v1), (2, .int v2), (3, .int v3), (4, .int v4)] dX11_laysAll_245 5 rfl (congrArg (fun z => v5 + z) ic_1) (by decide) rfl ?_
        refine J_goto hX 123 dX11_laysAll_248 (by decide) ?_
        refine J_sub [(0, .ref 78), (1, .int v1), (2, .int v2), (3, .int v3), (4, .int v4), (5, .int (v5 + (1 : Int32)))] [1, 2, 3, 4, 5, 0] rfl ?_
        exact ih (v5 + (1 : Int32)) m7 h
      · refine J_aload_n hX dX11_laysAll_193 rfl 0 rfl ?_
        refine J_getR hX dX11_laysAll_194 fl_RX11_101 (ltn ltc_78 hn) lo_78 rfl (rt_78_42 _ _ _ _ _) ?_
        refine J_iconst hX (5 : Int32) dX11_laysAll_197 ic_5 ?_
        refine J_iload hX dX11_laysAll_198 4 rfl ?_
        refine J_imul hX dX11_laysAll_200 ?_
        refine J_iload hX dX11_laysAll_201 5 rfl ?_
        refine J_iadd hX dX11_laysAll_203 ?_
        refine J_aload_n hX dX11_laysAll_204 rfl 0 rfl ?_
        refine J_getR hX dX11_laysAll_205 fl_RX11_98 (ltn ltc_78 hn) lo_78 rfl (rt_78_41 _ _ _ _ _) ?_
        refine J_iload_n hX dX11_laysAll_208 rfl 1 rfl ?_
        refine J_iaload hX dX11_laysAll_209 (ltn ltc_108 hn) lay_108 h (fun h => ?_)
        refine J_iastore hX dX11_laysAll_210 (ltn ltc_109 hn) lay_109 h (fun m8 h => ?_)
        refine J_aload_n hX dX11_laysAll_211 rfl 0 rfl ?_
        refine J_getR hX dX11_laysAll_212 fl_RX11_95 (ltn ltc_78 hn) lo_78 rfl (rt_78_40 _ _ _ _ _) ?_
        refine J_sipush hX (160 : Int32) dX11_laysAll_215 (by decide) ?_
        refine J_iload_n hX dX11_laysAll_218 rfl 1 rfl ?_
        refine J_imul hX dX11_laysAll_219 ?_
        refine J_aload_n hX dX11_laysAll_220 rfl 0 rfl ?_
        refine J_getR hX dX11_laysAll_221 fl_RX11_98 (ltn ltc_78 hn) lo_78 rfl (rt_78_41 _ _ _ _ _) ?_
        refine J_iload_n hX dX11_laysAll_224 rfl 1 rfl ?_
        refine J_iaload hX dX11_laysAll_225 (ltn ltc_108 hn) lay_108 h (fun h => ?_)
        refine J_iadd hX dX11_laysAll_226 ?_
        refine J_iconst hX (5 : Int32) dX11_laysAll_227 ic_5 ?_
        refine J_iload hX dX11_laysAll_228 4 rfl ?_
        refine J_imul hX dX11_laysAll_230 ?_
        refine J_iload hX dX11_laysAll_231 5 rfl ?_
        refine J_iadd hX dX11_laysAll_233 ?_
        refine J_iastore hX dX11_laysAll_234 (ltn ltc_107 hn) lay_107 h (fun m9 h => ?_)
        refine J_aload_n hX dX11_laysAll_235 rfl 0 rfl ?_
        refine J_getR hX dX11_laysAll_236 fl_RX11_98 (ltn ltc_78 hn) lo_78 rfl (rt_78_41 _ _ _ _ _) ?_
        refine J_iload_n hX dX11_laysAll_239 rfl 1 rfl ?_
        refine J_dup2 hX dX11_laysAll_240 rfl rfl ?_
        refine J_iaload hX dX11_laysAll_241 (ltn ltc_108 hn) lay_108 h (fun h => ?_)
        refine J_iconst hX (1 : Int32) dX11_laysAll_242 ic_1 ?_
        refine J_iadd hX dX11_laysAll_243 ?_
        refine J_iastore hX dX11_laysAll_244 (ltn ltc_108 hn) lay_108 h (fun m10 h => ?_)
        refine J_iinc hX (v5 + (1 : Int32)) [(5, .int (v5 + (1 : Int32))), (0, .ref 78), (1, .int v1), (2, .int v2), (3, .int v3), (4, .int v4)] dX11_laysAll_245 5 rfl (congrArg (fun z => v5 + z) ic_1) (by decide) rfl ?_
        refine J_goto hX 123 dX11_laysAll_248 (by decide) ?_
        refine J_sub [(0, .ref 78), (1, .int v1), (2, .int v2), (3, .int v3), (4, .int v4), (5, .int (v5 + (1 : Int32)))] [1, 2, 3, 4, 5, 0] rfl ?_
        exact ih (v5 + (1 : Int32)) m10 h
    · refine J_sub [(0, .ref 78), (1, .int v1), (2, .int v2), (3, .int v3)] [0, 1, 2, 3] rfl ?_
      exact hK  m h
theorem t_X11_laysAll_L102 {X : XX} {G : GG} {ρ : Nat → Nat} {n t u w v : Nat} {x : Option Nat} {d : Nat} (hX : Ok X G ρ cX11_laysAll 6 RX11 d) (hd0 : 4 ≤ d) (hn : 126 ≤ n) {mE : Mm} (hF : Fin' X G ρ n none none (RT t u w v x) mE) : ∀ (k : Nat) (v1 : Int32) (v2 : Int32) (v3 : Int32) (m : Mm), f_X11_laysAll_L102 k v1 v2 v3 m = some mE → J X G ρ n 6 102 [(0, .ref 78), (1, .int v1), (2, .int v2), (3, .int v3)] [] (RT t u w v x) m := by
  intro k
  induction k with
  | zero => intro _ _ _ _ h; rw [f_X11_laysAll_L102] at h; cases h
  | succ k ih =>
    intro v1 v2 v3 m h
    rw [f_X11_laysAll_L102] at h
    refine J_iload_n hX dX11_laysAll_102 rfl 3 rfl ?_
    refine J_aload_n hX dX11_laysAll_103 rfl 0 rfl ?_
    refine J_getR hX dX11_laysAll_104 fl_RX11_71 (ltn ltc_78 hn) lo_78 rfl (rt_78_32 _ _ _ _ _) ?_
    refine J_iload_n hX dX11_laysAll_107 rfl 1 rfl ?_
    refine J_iaload hX dX11_laysAll_108 (ltn ltc_99 hn) lay_99 h (fun h => ?_)
    refine J_icmp_ge hX 257 dX11_laysAll_109 (by decide) h (fun c h => ?_) (fun c h => ?_)
    · refine J_bipush hX (40 : Int32) dX11_laysAll_112 (by decide) ?_
      refine J_iload_n hX dX11_laysAll_114 rfl 1 rfl ?_
      refine J_imul hX dX11_laysAll_115 ?_
      refine J_iload_n hX dX11_laysAll_116 rfl 3 rfl ?_
      refine J_iadd hX dX11_laysAll_117 ?_
      refine J_istore hX [(4, .int (((40 : Int32) * v1) + v3)), (0, .ref 78), (1, .int v1), (2, .int v2), (3, .int v3)] dX11_laysAll_118 (by decide) rfl ?_
      refine J_iconst hX (0 : Int32) dX11_laysAll_120 ic_0 ?_
      refine J_istore hX [(5, .int (0 : Int32)), (4, .int (((40 : Int32) * v1) + v3)), (0, .ref 78), (1, .int v1), (2, .int v2), (3, .int v3)] dX11_laysAll_121 (by decide) rfl ?_
      refine J_sub [(0, .ref 78), (1, .int v1), (2, .int v2), (3, .int v3), (4, .int (((40 : Int32) * v1) + v3)), (5, .int (0 : Int32))] [2, 3, 4, 5, 1, 0] rfl ?_
      refine t_X11_laysAll_L123 hX hd0 hn hF (fun m11 h => ?_) FU (0 : Int32) m h
      refine J_iinc hX (v3 + (1 : Int32)) [(3, .int (v3 + (1 : Int32))), (0, .ref 78), (1, .int v1), (2, .int v2)] dX11_laysAll_251 3 rfl (congrArg (fun z => v3 + z) ic_1) (by decide) rfl ?_
      refine J_goto hX 102 dX11_laysAll_254 (by decide) ?_
      refine J_sub [(0, .ref 78), (1, .int v1), (2, .int v2), (3, .int (v3 + (1 : Int32)))] [1, 2, 3, 0] rfl ?_
      exact ih v1 v2 (v3 + (1 : Int32)) m11 h
    · refine J_iconst hX (0 : Int32) dX11_laysAll_257 ic_0 ?_
      refine J_istore_n hX [(3, .int (0 : Int32)), (0, .ref 78), (1, .int v1), (2, .int v2)] dX11_laysAll_258 rfl (by decide) rfl ?_
      refine J_sub [(0, .ref 78), (1, .int v1), (2, .int v2), (3, .int (0 : Int32))] [1, 2, 3, 0] rfl ?_
      exact t_X11_laysAll_L259 hX hd0 hn hF FU v1 v2 (0 : Int32)  m h
theorem t_X11_laysAll_J63 {X : XX} {G : GG} {ρ : Nat → Nat} {n t u w v : Nat} {x : Option Nat} {d : Nat} (hX : Ok X G ρ cX11_laysAll 6 RX11 d) (hd0 : 4 ≤ d) (hn : 126 ≤ n) {mE : Mm} (hF : Fin' X G ρ n none none (RT t u w v x) mE) {K29 : Int32 → Mm → Option (Mm)} (v1 : Int32) (v2 : Int32) (v3 : Int32) (v4 : Int32) (s0 : Int32) (s1 : Int32) (s2 : Int32) (hK29 : ∀ (w4 : Int32) (m : Mm), K29 w4 m = some mE → J X G ρ n 6 29 [(0, .ref 78), (1, .int v1), (2, .int v2), (3, .int v3), (4, .int w4)] [] (RT t u w v x) m) (m : Mm) (h : f_X11_laysAll_J63 K29 v1 v2 v3 v4 s0 s1 s2 m = some mE) : J X G ρ n 6 63 [(0, .ref 78), (1, .int v1), (2, .int v2), (3, .int v3), (4, .int v4)] [.int s0, .int s1, .int s2, .ref 78] (RT t u w v x) m := by
  unfold f_X11_laysAll_J63 at h
  refine J_aload_n hX dX11_laysAll_63 rfl 0 rfl ?_
  refine J_getR hX dX11_laysAll_64 fl_RX11_16 (ltn ltc_78 hn) lo_78 rfl (rt_78_11 _ _ _ _ _) ?_
  refine J_iload_n hX dX11_laysAll_67 rfl 3 rfl ?_
  refine J_iaload hX dX11_laysAll_68 (ltn ltc_81 hn) lay_81 h (fun h => ?_)
  refine J_iconst hX (2 : Int32) dX11_laysAll_69 ic_2 ?_
  refine J_icmp_ne hX 83 dX11_laysAll_70 (by decide) h (fun c h => ?_) (fun c h => ?_)
  · refine J_iload hX dX11_laysAll_73 4 rfl ?_
    refine J_iconst hX (1 : Int32) dX11_laysAll_75 ic_1 ?_
    refine J_icmp_ne hX 83 dX11_laysAll_76 (by decide) h (fun c h => ?_) (fun c h => ?_)
    · refine J_iconst hX (1 : Int32) dX11_laysAll_79 ic_1 ?_
      refine J_goto hX 84 dX11_laysAll_80 (by decide) ?_
      refine J_iload_n hX dX11_laysAll_84 rfl 2 rfl ?_
      obtain ⟨m16, h0, h⟩ := bd1_some h
      refine J_callVv (As := [.int s2, .int s1, .int s0, .int (1 : Int32), .int v2]) (st := []) hX dX11_laysAll_85 cw_RX11_319 (by omega) (c_X11_laysStripe hn  h0) (ltn ltc_78 hn) lo_78 (by decide) rfl rfl rfl (Nat.le_of_ble_eq_true rfl) ?_
      clear h0
      refine J_iinc hX (v4 + (1 : Int32)) [(4, .int (v4 + (1 : Int32))), (0, .ref 78), (1, .int v1), (2, .int v2), (3, .int v3)] dX11_laysAll_88 4 rfl (congrArg (fun z => v4 + z) ic_1) (by decide) rfl ?_
      refine J_goto hX 29 dX11_laysAll_91 (by decide) ?_
      refine J_sub [(0, .ref 78), (1, .int v1), (2, .int v2), (3, .int v3), (4, .int (v4 + (1 : Int32)))] [1, 2, 3, 4, 0] rfl ?_
      exact hK29 (v4 + (1 : Int32)) m16 h
    · refine J_iconst hX (0 : Int32) dX11_laysAll_83 ic_0 ?_
      refine J_iload_n hX dX11_laysAll_84 rfl 2 rfl ?_
      obtain ⟨m15, h0, h⟩ := bd1_some h
      refine J_callVv (As := [.int s2, .int s1, .int s0, .int (0 : Int32), .int v2]) (st := []) hX dX11_laysAll_85 cw_RX11_319 (by omega) (c_X11_laysStripe hn  h0) (ltn ltc_78 hn) lo_78 (by decide) rfl rfl rfl (Nat.le_of_ble_eq_true rfl) ?_
      clear h0
      refine J_iinc hX (v4 + (1 : Int32)) [(4, .int (v4 + (1 : Int32))), (0, .ref 78), (1, .int v1), (2, .int v2), (3, .int v3)] dX11_laysAll_88 4 rfl (congrArg (fun z => v4 + z) ic_1) (by decide) rfl ?_
      refine J_goto hX 29 dX11_laysAll_91 (by decide) ?_
      refine J_sub [(0, .ref 78), (1, .int v1), (2, .int v2), (3, .int v3), (4, .int (v4 + (1 : Int32)))] [1, 2, 3, 4, 0] rfl ?_
      exact hK29 (v4 + (1 : Int32)) m15 h
  · refine J_iconst hX (0 : Int32) dX11_laysAll_83 ic_0 ?_
    refine J_iload_n hX dX11_laysAll_84 rfl 2 rfl ?_
    obtain ⟨m14, h0, h⟩ := bd1_some h
    refine J_callVv (As := [.int s2, .int s1, .int s0, .int (0 : Int32), .int v2]) (st := []) hX dX11_laysAll_85 cw_RX11_319 (by omega) (c_X11_laysStripe hn  h0) (ltn ltc_78 hn) lo_78 (by decide) rfl rfl rfl (Nat.le_of_ble_eq_true rfl) ?_
    clear h0
    refine J_iinc hX (v4 + (1 : Int32)) [(4, .int (v4 + (1 : Int32))), (0, .ref 78), (1, .int v1), (2, .int v2), (3, .int v3)] dX11_laysAll_88 4 rfl (congrArg (fun z => v4 + z) ic_1) (by decide) rfl ?_
    refine J_goto hX 29 dX11_laysAll_91 (by decide) ?_
    refine J_sub [(0, .ref 78), (1, .int v1), (2, .int v2), (3, .int v3), (4, .int (v4 + (1 : Int32)))] [1, 2, 3, 4, 0] rfl ?_
    exact hK29 (v4 + (1 : Int32)) m14 h
theorem t_X11_laysAll_L29 {X : XX} {G : GG} {ρ : Nat → Nat} {n t u w v : Nat} {x : Option Nat} {d : Nat} (hX : Ok X G ρ cX11_laysAll 6 RX11 d) (hd0 : 4 ≤ d) (hn : 126 ≤ n) {mE : Mm} (hF : Fin' X G ρ n none none (RT t u w v x) mE) {v1 : Int32} {v2 : Int32} {v3 : Int32} {K : Mm → Option (Mm)} (hK : ∀ (m : Mm), K m = some mE → J X G ρ n 6 94 [(0, .ref 78), (1, .int v1), (2, .int v2), (3, .int v3)] [] (RT t u w v x) m) : ∀ (k : Nat) (v4 : Int32) (m : Mm), f_X11_laysAll_L29 v1 v2 v3 K k v4 m = some mE → J X G ρ n 6 29 [(0, .ref 78), (1, .int v1), (2, .int v2), (3, .int v3), (4, .int v4)] [] (RT t u w v x) m := by
  intro k
  induction k with
  | zero => intro _ _ h; rw [f_X11_laysAll_L29] at h; cases h
  | succ k ih =>
    intro v4 m h
    rw [f_X11_laysAll_L29] at h
    refine J_iload hX dX11_laysAll_29 4 rfl ?_
    refine J_aload_n hX dX11_laysAll_31 rfl 0 rfl ?_
    refine J_getR hX dX11_laysAll_32 fl_RX11_16 (ltn ltc_78 hn) lo_78 rfl (rt_78_11 _ _ _ _ _) ?_
    refine J_iload_n hX dX11_laysAll_35 rfl 3 rfl ?_
    refine J_iaload hX dX11_laysAll_36 (ltn ltc_81 hn) lay_81 h (fun h => ?_)
    refine J_iload_n hX dX11_laysAll_37 rfl 2 rfl ?_
    obtain ⟨r13, m12, h0, h⟩ := bd2_some h
    refine J_callSi (As := [.int (gI m 81 (ix v3)), .int v2]) (st := [.int v4]) hX dX11_laysAll_38 cw_RX11_261 (by omega) (c_X11_stripesOf hn  h0) rfl rfl (Nat.le_of_ble_eq_true rfl) ?_
    clear h0
    refine J_icmp_ge hX 94 dX11_laysAll_41 (by decide) h (fun c h => ?_) (fun c h => ?_)
    · refine J_aload_n hX dX11_laysAll_44 rfl 0 rfl ?_
      refine J_iload_n hX dX11_laysAll_45 rfl 1 rfl ?_
      refine J_iload_n hX dX11_laysAll_46 rfl 3 rfl ?_
      refine J_aload_n hX dX11_laysAll_47 rfl 0 rfl ?_
      refine J_getR hX dX11_laysAll_48 fl_RX11_16 (ltn ltc_78 hn) lo_78 rfl (rt_78_11 _ _ _ _ _) ?_
      refine J_iload_n hX dX11_laysAll_51 rfl 3 rfl ?_
      refine J_iaload hX dX11_laysAll_52 (ltn ltc_81 hn) lay_81 h (fun h => ?_)
      refine J_iconst hX (1 : Int32) dX11_laysAll_53 ic_1 ?_
      refine J_icmp_ne hX 62 dX11_laysAll_54 (by decide) h (fun c h => ?_) (fun c h => ?_)
      · refine J_iload hX dX11_laysAll_57 4 rfl ?_
        refine J_goto hX 63 dX11_laysAll_59 (by decide) ?_
        exact t_X11_laysAll_J63 hX hd0 hn hF v1 v2 v3 v4 v4 v3 v1 (fun w4 m h => ih w4 m h) m12 h
      · refine J_iconst hX (0 : Int32) dX11_laysAll_62 ic_0 ?_
        exact t_X11_laysAll_J63 hX hd0 hn hF v1 v2 v3 v4 (0 : Int32) v3 v1 (fun w4 m h => ih w4 m h) m12 h
    · refine J_sub [(0, .ref 78), (1, .int v1), (2, .int v2), (3, .int v3)] [0, 1, 2, 3] rfl ?_
      exact hK  m12 h
theorem t_X11_laysAll_L16 {X : XX} {G : GG} {ρ : Nat → Nat} {n t u w v : Nat} {x : Option Nat} {d : Nat} (hX : Ok X G ρ cX11_laysAll 6 RX11 d) (hd0 : 4 ≤ d) (hn : 126 ≤ n) {mE : Mm} (hF : Fin' X G ρ n none none (RT t u w v x) mE) : ∀ (k : Nat) (v1 : Int32) (v2 : Int32) (v3 : Int32) (m : Mm), f_X11_laysAll_L16 k v1 v2 v3 m = some mE → J X G ρ n 6 16 [(0, .ref 78), (1, .int v1), (2, .int v2), (3, .int v3)] [] (RT t u w v x) m := by
  intro k
  induction k with
  | zero => intro _ _ _ _ h; rw [f_X11_laysAll_L16] at h; cases h
  | succ k ih =>
    intro v1 v2 v3 m h
    rw [f_X11_laysAll_L16] at h
    refine J_iload_n hX dX11_laysAll_16 rfl 3 rfl ?_
    refine J_aload_n hX dX11_laysAll_17 rfl 0 rfl ?_
    refine J_getR hX dX11_laysAll_18 fl_RX11_13 (ltn ltc_78 hn) lo_78 rfl (rt_78_10 _ _ _ _ _) ?_
    refine J_iconst hX (1 : Int32) dX11_laysAll_21 ic_1 ?_
    refine J_iaload0 hX dX11_laysAll_22 (ltn ltc_80 hn) lay_80 (by decide) ?_
    refine J_icmp_ge hX 100 dX11_laysAll_23 (by decide) h (fun c h => ?_) (fun c h => ?_)
    · refine J_iconst hX (0 : Int32) dX11_laysAll_26 ic_0 ?_
      refine J_istore hX [(4, .int (0 : Int32)), (0, .ref 78), (1, .int v1), (2, .int v2), (3, .int v3)] dX11_laysAll_27 (by decide) rfl ?_
      refine J_sub [(0, .ref 78), (1, .int v1), (2, .int v2), (3, .int v3), (4, .int (0 : Int32))] [1, 2, 3, 4, 0] rfl ?_
      refine t_X11_laysAll_L29 hX hd0 hn hF (fun m17 h => ?_) FU (0 : Int32) m h
      refine J_iinc hX (v3 + (1 : Int32)) [(3, .int (v3 + (1 : Int32))), (0, .ref 78), (1, .int v1), (2, .int v2)] dX11_laysAll_94 3 rfl (congrArg (fun z => v3 + z) ic_1) (by decide) rfl ?_
      refine J_goto hX 16 dX11_laysAll_97 (by decide) ?_
      refine J_sub [(0, .ref 78), (1, .int v1), (2, .int v2), (3, .int (v3 + (1 : Int32)))] [1, 2, 3, 0] rfl ?_
      exact ih v1 v2 (v3 + (1 : Int32)) m17 h
    · refine J_iconst hX (0 : Int32) dX11_laysAll_100 ic_0 ?_
      refine J_istore_n hX [(3, .int (0 : Int32)), (0, .ref 78), (1, .int v1), (2, .int v2)] dX11_laysAll_101 rfl (by decide) rfl ?_
      refine J_sub [(0, .ref 78), (1, .int v1), (2, .int v2), (3, .int (0 : Int32))] [1, 2, 3, 0] rfl ?_
      exact t_X11_laysAll_L102 hX hd0 hn hF FU v1 v2 (0 : Int32)  m h
theorem t_X11_laysAll {X : XX} {G : GG} {ρ : Nat → Nat} {n t u w v : Nat} {x : Option Nat} {d : Nat} (hX : Ok X G ρ cX11_laysAll 6 RX11 d) (hd0 : 4 ≤ d) (hn : 126 ≤ n) {mE : Mm} (hF : Fin' X G ρ n none none (RT t u w v x) mE) {x1 : Int32} {x2 : Int32} {m : Mm} (h : f_X11_laysAll x1 x2 m = some mE) : J X G ρ n 6 0 [(0, .ref 78), (1, .int x1), (2, .int x2)] [] (RT t u w v x) m := by
  unfold f_X11_laysAll at h
  refine J_aload_n hX dX11_laysAll_0 rfl 0 rfl ?_
  refine J_getR hX dX11_laysAll_1 fl_RX11_71 (ltn ltc_78 hn) lo_78 rfl (rt_78_32 _ _ _ _ _) ?_
  refine J_iload_n hX dX11_laysAll_4 rfl 1 rfl ?_
  refine J_iconst hX (0 : Int32) dX11_laysAll_5 ic_0 ?_
  refine J_iastore hX dX11_laysAll_6 (ltn ltc_99 hn) lay_99 h (fun m1 h => ?_)
  refine J_aload_n hX dX11_laysAll_7 rfl 0 rfl ?_
  refine J_getR hX dX11_laysAll_8 fl_RX11_98 (ltn ltc_78 hn) lo_78 rfl (rt_78_41 _ _ _ _ _) ?_
  refine J_iload_n hX dX11_laysAll_11 rfl 1 rfl ?_
  refine J_iconst hX (0 : Int32) dX11_laysAll_12 ic_0 ?_
  refine J_iastore hX dX11_laysAll_13 (ltn ltc_108 hn) lay_108 h (fun m2 h => ?_)
  refine J_iconst hX (0 : Int32) dX11_laysAll_14 ic_0 ?_
  refine J_istore_n hX [(3, .int (0 : Int32)), (0, .ref 78), (1, .int x1), (2, .int x2)] dX11_laysAll_15 rfl (by decide) rfl ?_
  refine J_sub [(0, .ref 78), (1, .int x1), (2, .int x2), (3, .int (0 : Int32))] [1, 2, 3, 0] rfl ?_
  exact t_X11_laysAll_L16 hX hd0 hn hF FU x1 x2 (0 : Int32)  m2 h
theorem c_X11_laysAll {G : GG} {l : Launch} {ρ : Nat → Nat} {n t u w v : Nat} {x : Option Nat} (hn : 126 ≤ n) {x1 : Int32} {x2 : Int32} {m : Mm} {mE : Mm} (h : f_X11_laysAll x1 x2 m = some mE) : CT G l yX11_laysAll cX11_laysAll 6 none 4 0 0 ρ n (RT t u w v x) [.ref 78, .int x1, .int x2] m none (RT t u w v x) mE := ct_of_J (by decide) rfl (Nat.le_of_ble_eq_true rfl) (fun X hX e1 e2 e3 e4 hQ hr hl => t_X11_laysAll hX (Nat.le_refl _) hn ⟨by rw [hQ, e3, e4], hr, hl⟩ h)
