/-- the law's script: L ints xs, at the cell ρ 4000, outside the world -/
def Scr (X : XX) (G : GG) (ρ : Nat → Nat) (L : Nat) (xs : Nat → Int32) : Prop := va_X (ρ 4000) L xs X.1.2.2.2.2 X.1.2.2.2.2.heap ∧ ρ 4000 < X.1.2.2.2.2.heap.size ∧ ¬ GA G (ρ 4000)
section LawRules
variable {X : XX} {G : GG} {ρ : Nat → Nat} {n : Nat} {cc : ByteArray} {nL : Nat} {own : String} {d pc L : Nat} {xs : Nat → Int32} {lv : List (Nat × Value)} {st : List Value} {rt : Rt} {m : Mm} {idx : Nat}
theorem J_sld {α : Type} {A : Option α} {res : α} {i : Int32} (hX : Ok X G ρ cc nL own d) (hsc : Scr X G ρ L xs) (hd : decode cc pc = .ok (.iaload, 1)) (h : gd (inb i L) A = some res) (k : A = some res → J X G ρ n nL (pc + 1) lv (.int (xs (ix i)) :: st) rt m) : J X G ρ n nL pc lv (.int i :: .ref 4000 :: st) rt m := by
  intro H locs ls hP hS hl
  exact va_sld hX.1 hX.2.1 hsc.1 hsc.2.1 hsc.2.2 hS (inb_in (gd_some h).1) hd (k (gd_some h).2 H locs ls hP hS hl)
theorem J_slen (hX : Ok X G ρ cc nL own d) (hsc : Scr X G ρ L xs) (hd : decode cc pc = .ok (.arraylength, 1)) (k : J X G ρ n nL (pc + 1) lv (.int (Int32.ofNat L) :: st) rt m) : J X G ρ n nL pc lv (.ref 4000 :: st) rt m := by
  intro H locs ls hP hS hl
  exact va_slen hX.1 hX.2.1 hsc.1 hsc.2.1 hsc.2.2 hS hd (k H locs ls hP hS hl)
theorem J_widenY (c s : Nat) (h1 : X.2.2.1 ≤ c) (h2 : X.2.2.2.1 ≤ s) (k : J (X.1, X.2.1, (c, s, X.2.2.2.2)) G ρ n nL pc lv st rt m) : J X G ρ n nL pc lv st rt m := by
  intro H locs ls hP hS hl
  exact W.widen h1 h2 (k H locs ls hP hS hl)
theorem J_callVAi {stk As : List Value} {rt2 : Rt} {m2 : Mm} {r : Int32} {ci b na d1 nL1 mc ms : Nat} {y : MethodName} {cc1 : ByteArray} {ret : Option FieldType} {C : String} (hX : Ok X G ρ cc nL own d) (hd : decode cc pc = .ok (.invokevirtual idx, 3)) (hw : CwV own idx C y cc1 nL1 ret na) (hd1 : d1 + 1 ≤ d)
    (hct : CT G X.1.2.1 y cc1 nL1 ret d1 mc ms ρ n rt (.ref b :: As) m (some (.int r)) rt2 m2) (hr1 : X.2.2.1 + mc ≤ X.1.2.2.2.1.cells) (hr2 : X.2.2.2.1 + ms ≤ X.1.2.2.2.1.slots)
    (hb : b < n) (hlb : (lay b).1 = ci) (hci : ci < 11) (hC : (vwCl[ci]?).map (·.1) = some C) (hna : As.length = na) (hs : stk = As.reverse ++ .ref b :: st) (hcat : (st.map fun v => v.category).sum ≤ 8)
    (k : J (bump X mc ms) G ρ n nL (pc + 3) lv (.int r :: st) rt2 m2) : J X G ρ n nL pc lv stk rt m := J_callVA (ov := some (.int r)) hX hd hw hd1 hct hr1 hr2 hb hlb hci hC hna hs hcat k
end LawRules
/-- what the call of it must do (owed: see NOTES.md) -/
def LostR (X : XX) (G : GG) (ρ : Nat → Nat) : Prop := X.2.2.1 + 1 ≤ X.1.2.2.2.1.cells → X.2.2.2.1 + 6 ≤ X.1.2.2.2.1.slots → ∀ (lv : List (Nat × Value)) (x : Option Nat) (p k : Int32) (m m2 : Mm) {t u w v : Nat}, isTo t → isTo u → isWk w → isWk v → f_L_lost p m = some (k, m2) → J (bump X 1 6) G ρ 126 7 (1139 + 3) lv [.int k] (RT t u w v x) m2 → J X G ρ 126 7 1139 lv [.ref 125, .int p, .ref 0] (RT t u w v x) m
theorem t_law_c0 {X : XX} {G : GG} {ρ : Nat → Nat} {d L : Nat} {xs : Nat → Int32} {t u w v : Nat} {x : Option Nat} (hX : Ok X G ρ cL_law 7 RL d) (hsc : Scr X G ρ L xs) (hd0 : 400 ≤ d) (hn : 126 ≤ 126) (hr1 : X.2.2.1 + 1 ≤ X.1.2.2.2.1.cells) (hr2 : X.2.2.2.1 + 6 ≤ X.1.2.2.2.1.slots) (ht : isTo t) (hu : isTo u) (hw : isWk w) (hv : isWk v) (hx : ∀ b, x = some b → isTo b) {K : Nat → Nat → Nat → Nat → Option Nat → Mm → Option Unit} {v4 : Int32} (hK : ∀ {t u w v : Nat} {x : Option Nat} {m : Mm}, isTo t → isTo u → isWk w → isWk v → (∀ b, x = some b → isTo b) → K t u w v x m = some () → J (bump X 1 6) G ρ 126 7 1393 [(0, .ref 4000), (1, .ref 0), (2, .ref 78), (3, .ref 125), (4, .int v4)] [] (RT t u w v x) m) {m : Mm} (h : f_law_c0 L xs t u w v x K v4 m = some ()) : J X G ρ 126 7 200 [(0, .ref 4000), (1, .ref 0), (2, .ref 78), (3, .ref 125), (4, .int v4)] [] (RT t u w v x) m := by
  unfold f_law_c0 at h
  refine J_aload_n hX dL_law_200 rfl 1 rfl ?_
  refine J_aload_n hX dL_law_201 rfl 0 rfl ?_
  refine J_iload hX dL_law_202 4 rfl ?_
  refine J_iconst hX (1 : Int32) dL_law_204 ic_1 ?_
  refine J_iadd hX dL_law_205 ?_
  refine J_sld hX hsc dL_law_206 h (fun h => ?_)
  refine J_i2l hX dL_law_207 ?_
  refine J_bipush hX (32 : Int32) dL_law_208 (by decide) ?_
  refine J_lshl hX dL_law_210 ?_
  refine J_aload_n hX dL_law_211 rfl 0 rfl ?_
  refine J_iload hX dL_law_212 4 rfl ?_
  refine J_iconst hX (2 : Int32) dL_law_214 ic_2 ?_
  refine J_iadd hX dL_law_215 ?_
  refine J_sld hX hsc dL_law_216 h (fun h => ?_)
  refine J_i2l hX dL_law_217 ?_
  refine J_ldc2 hX (4294967295 : Int64) dL_law_218 k_RL_19 ?_
  refine J_land hX dL_law_221 ?_
  refine J_lor hX dL_law_222 ?_
  refine J_aload_n hX dL_law_223 rfl 0 rfl ?_
  refine J_iload hX dL_law_224 4 rfl ?_
  refine J_iconst hX (3 : Int32) dL_law_226 ic_3 ?_
  refine J_iadd hX dL_law_227 ?_
  refine J_sld hX hsc dL_law_228 h (fun h => ?_)
  refine J_i2l hX dL_law_229 ?_
  refine J_bipush hX (32 : Int32) dL_law_230 (by decide) ?_
  refine J_lshl hX dL_law_232 ?_
  refine J_aload_n hX dL_law_233 rfl 0 rfl ?_
  refine J_iload hX dL_law_234 4 rfl ?_
  refine J_iconst hX (4 : Int32) dL_law_236 ic_4 ?_
  refine J_iadd hX dL_law_237 ?_
  refine J_sld hX hsc dL_law_238 h (fun h => ?_)
  refine J_i2l hX dL_law_239 ?_
  refine J_ldc2 hX (4294967295 : Int64) dL_law_240 k_RL_19 ?_
  refine J_land hX dL_law_243 ?_
  refine J_lor hX dL_law_244 ?_
  refine J_aload_n hX dL_law_245 rfl 0 rfl ?_
  refine J_iload hX dL_law_246 4 rfl ?_
  refine J_iconst hX (5 : Int32) dL_law_248 ic_5 ?_
  refine J_iadd hX dL_law_249 ?_
  refine J_sld hX hsc dL_law_250 h (fun h => ?_)
  refine J_i2l hX dL_law_251 ?_
  refine J_bipush hX (32 : Int32) dL_law_252 (by decide) ?_
  refine J_lshl hX dL_law_254 ?_
  refine J_aload_n hX dL_law_255 rfl 0 rfl ?_
  refine J_iload hX dL_law_256 4 rfl ?_
  refine J_bipush hX (6 : Int32) dL_law_258 (by decide) ?_
  refine J_iadd hX dL_law_260 ?_
  refine J_sld hX hsc dL_law_261 h (fun h => ?_)
  refine J_i2l hX dL_law_262 ?_
  refine J_ldc2 hX (4294967295 : Int64) dL_law_263 k_RL_19 ?_
  refine J_land hX dL_law_266 ?_
  refine J_lor hX dL_law_267 ?_
  obtain ⟨r2, m1, h0, h⟩ := bd2_some h
  refine J_callVi (As := [.long ((((xs (ix (v4 + (1 : Int32)))).toInt64) <<< ((32 : Int32).toInt64 &&& 63)) ||| (((xs (ix (v4 + (2 : Int32)))).toInt64) &&& (4294967295 : Int64))), .long ((((xs (ix (v4 + (3 : Int32)))).toInt64) <<< ((32 : Int32).toInt64 &&& 63)) ||| (((xs (ix (v4 + (4 : Int32)))).toInt64) &&& (4294967295 : Int64))), .long ((((xs (ix (v4 + (5 : Int32)))).toInt64) <<< ((32 : Int32).toInt64 &&& 63)) ||| (((xs (ix (v4 + (6 : Int32)))).toInt64) &&& (4294967295 : Int64)))]) (st := []) hX dL_law_268 cw_RL_21 (by omega) (c_X10_feed hn ht hu hw hv h0) (ltn ltc_0 hn) lo_0 (by decide) rfl rfl rfl (Nat.le_of_ble_eq_true rfl) ?_
  clear h0
  refine J_aload_n hX dL_law_271 rfl 2 rfl ?_
  refine J_aload_n hX dL_law_272 rfl 0 rfl ?_
  refine J_iload hX dL_law_273 4 rfl ?_
  refine J_iconst hX (1 : Int32) dL_law_275 ic_1 ?_
  refine J_iadd hX dL_law_276 ?_
  refine J_sld hX hsc dL_law_277 h (fun h => ?_)
  refine J_i2l hX dL_law_278 ?_
  refine J_bipush hX (32 : Int32) dL_law_279 (by decide) ?_
  refine J_lshl hX dL_law_281 ?_
  refine J_aload_n hX dL_law_282 rfl 0 rfl ?_
  refine J_iload hX dL_law_283 4 rfl ?_
  refine J_iconst hX (2 : Int32) dL_law_285 ic_2 ?_
  refine J_iadd hX dL_law_286 ?_
  refine J_sld hX hsc dL_law_287 h (fun h => ?_)
  refine J_i2l hX dL_law_288 ?_
  refine J_ldc2 hX (4294967295 : Int64) dL_law_289 k_RL_19 ?_
  refine J_land hX dL_law_292 ?_
  refine J_lor hX dL_law_293 ?_
  refine J_aload_n hX dL_law_294 rfl 0 rfl ?_
  refine J_iload hX dL_law_295 4 rfl ?_
  refine J_iconst hX (3 : Int32) dL_law_297 ic_3 ?_
  refine J_iadd hX dL_law_298 ?_
  refine J_sld hX hsc dL_law_299 h (fun h => ?_)
  refine J_i2l hX dL_law_300 ?_
  refine J_bipush hX (32 : Int32) dL_law_301 (by decide) ?_
  refine J_lshl hX dL_law_303 ?_
  refine J_aload_n hX dL_law_304 rfl 0 rfl ?_
  refine J_iload hX dL_law_305 4 rfl ?_
  refine J_iconst hX (4 : Int32) dL_law_307 ic_4 ?_
  refine J_iadd hX dL_law_308 ?_
  refine J_sld hX hsc dL_law_309 h (fun h => ?_)
  refine J_i2l hX dL_law_310 ?_
  refine J_ldc2 hX (4294967295 : Int64) dL_law_311 k_RL_19 ?_
  refine J_land hX dL_law_314 ?_
  refine J_lor hX dL_law_315 ?_
  refine J_aload_n hX dL_law_316 rfl 0 rfl ?_
  refine J_iload hX dL_law_317 4 rfl ?_
  refine J_iconst hX (5 : Int32) dL_law_319 ic_5 ?_
  refine J_iadd hX dL_law_320 ?_
  refine J_sld hX hsc dL_law_321 h (fun h => ?_)
  refine J_i2l hX dL_law_322 ?_
  refine J_bipush hX (32 : Int32) dL_law_323 (by decide) ?_
  refine J_lshl hX dL_law_325 ?_
  refine J_aload_n hX dL_law_326 rfl 0 rfl ?_
  refine J_iload hX dL_law_327 4 rfl ?_
  refine J_bipush hX (6 : Int32) dL_law_329 (by decide) ?_
  refine J_iadd hX dL_law_331 ?_
  refine J_sld hX hsc dL_law_332 h (fun h => ?_)
  refine J_i2l hX dL_law_333 ?_
  refine J_ldc2 hX (4294967295 : Int64) dL_law_334 k_RL_19 ?_
  refine J_land hX dL_law_337 ?_
  refine J_lor hX dL_law_338 ?_
  obtain ⟨r4, m3, h0, h⟩ := bd2_some h
  refine J_callVi (As := [.long ((((xs (ix (v4 + (1 : Int32)))).toInt64) <<< ((32 : Int32).toInt64 &&& 63)) ||| (((xs (ix (v4 + (2 : Int32)))).toInt64) &&& (4294967295 : Int64))), .long ((((xs (ix (v4 + (3 : Int32)))).toInt64) <<< ((32 : Int32).toInt64 &&& 63)) ||| (((xs (ix (v4 + (4 : Int32)))).toInt64) &&& (4294967295 : Int64))), .long ((((xs (ix (v4 + (5 : Int32)))).toInt64) <<< ((32 : Int32).toInt64 &&& 63)) ||| (((xs (ix (v4 + (6 : Int32)))).toInt64) &&& (4294967295 : Int64)))]) (st := [.int r2]) hX dL_law_339 cw_RL_25 (by omega) (c_X11_feed hn  h0) (ltn ltc_78 hn) lo_78 (by decide) rfl rfl rfl (Nat.le_of_ble_eq_true rfl) ?_
  clear h0
  refine J_icmp_eq hX 1393 dL_law_342 (by decide) h (fun c h => ?_) (fun c h => ?_)
  · exact J_widenY (X.2.2.1 + 1) (X.2.2.2.1 + 6) (by (try simp only [bump]); omega) (by (try simp only [bump]); omega) (hK ht hu hw hv hx h)
  · refine J_iconst hX (0 : Int32) dL_law_345 ic_0 ?_
    cases h
theorem t_law_c1 {X : XX} {G : GG} {ρ : Nat → Nat} {d L : Nat} {xs : Nat → Int32} {t u w v : Nat} {x : Option Nat} (hX : Ok X G ρ cL_law 7 RL d) (hsc : Scr X G ρ L xs) (hd0 : 400 ≤ d) (hn : 126 ≤ 126) (hr1 : X.2.2.1 + 1 ≤ X.1.2.2.2.1.cells) (hr2 : X.2.2.2.1 + 6 ≤ X.1.2.2.2.1.slots) (ht : isTo t) (hu : isTo u) (hw : isWk w) (hv : isWk v) (hx : ∀ b, x = some b → isTo b) {K : Nat → Nat → Nat → Nat → Option Nat → Mm → Option Unit} {v4 : Int32} (hK : ∀ {t u w v : Nat} {x : Option Nat} {m : Mm}, isTo t → isTo u → isWk w → isWk v → (∀ b, x = some b → isTo b) → K t u w v x m = some () → J (bump X 1 6) G ρ 126 7 1393 [(0, .ref 4000), (1, .ref 0), (2, .ref 78), (3, .ref 125), (4, .int v4)] [] (RT t u w v x) m) {m : Mm} (h : f_law_c1 L xs t u w v x K v4 m = some ()) : J X G ρ 126 7 347 [(0, .ref 4000), (1, .ref 0), (2, .ref 78), (3, .ref 125), (4, .int v4)] [] (RT t u w v x) m := by
  unfold f_law_c1 at h
  refine J_aload_n hX dL_law_347 rfl 1 rfl ?_
  obtain ⟨r2, m1, h0, h⟩ := bd2_some h
  refine J_callVi (As := []) (st := []) hX dL_law_348 cw_RL_26 (by omega) (c_X10_array hn ht hu hw hv h0) (ltn ltc_0 hn) lo_0 (by decide) rfl rfl rfl (Nat.le_of_ble_eq_true rfl) ?_
  clear h0
  refine J_split h (fun c h => ?_) (fun c h => ?_)
  · rw [show rtA t u w v r2 = RT u t w v (some u) from if_pos c]
    refine J_aload_n hX dL_law_351 rfl 2 rfl ?_
    obtain ⟨r4, m3, h0, h⟩ := bd2_some h
    refine J_callVi (As := []) (st := [.int r2]) hX dL_law_352 cw_RL_30 (by omega) (c_X11_array hn  h0) (ltn ltc_78 hn) lo_78 (by decide) rfl rfl rfl (Nat.le_of_ble_eq_true rfl) ?_
    clear h0
    refine J_icmp_eq hX 1393 dL_law_355 (by decide) h (fun c h => ?_) (fun c h => ?_)
    · exact J_widenY (X.2.2.1 + 1) (X.2.2.2.1 + 6) (by (try simp only [bump]); omega) (by (try simp only [bump]); omega) (hK hu ht hw hv (fun b hb => by cases hb; exact hu) h)
    · refine J_iconst hX (0 : Int32) dL_law_358 ic_0 ?_
      cases h
  · rw [show rtA t u w v r2 = RT t u w v (some u) from if_neg c]
    refine J_aload_n hX dL_law_351 rfl 2 rfl ?_
    obtain ⟨r6, m5, h0, h⟩ := bd2_some h
    refine J_callVi (As := []) (st := [.int r2]) hX dL_law_352 cw_RL_30 (by omega) (c_X11_array hn  h0) (ltn ltc_78 hn) lo_78 (by decide) rfl rfl rfl (Nat.le_of_ble_eq_true rfl) ?_
    clear h0
    refine J_icmp_eq hX 1393 dL_law_355 (by decide) h (fun c h => ?_) (fun c h => ?_)
    · exact J_widenY (X.2.2.1 + 1) (X.2.2.2.1 + 6) (by (try simp only [bump]); omega) (by (try simp only [bump]); omega) (hK ht hu hw hv (fun b hb => by cases hb; exact hu) h)
    · refine J_iconst hX (0 : Int32) dL_law_358 ic_0 ?_
      cases h
theorem t_law_c2 {X : XX} {G : GG} {ρ : Nat → Nat} {d L : Nat} {xs : Nat → Int32} {t u w v : Nat} {x : Option Nat} (hX : Ok X G ρ cL_law 7 RL d) (hsc : Scr X G ρ L xs) (hd0 : 400 ≤ d) (hn : 126 ≤ 126) (hr1 : X.2.2.1 + 1 ≤ X.1.2.2.2.1.cells) (hr2 : X.2.2.2.1 + 6 ≤ X.1.2.2.2.1.slots) (ht : isTo t) (hu : isTo u) (hw : isWk w) (hv : isWk v) (hx : ∀ b, x = some b → isTo b) {K : Nat → Nat → Nat → Nat → Option Nat → Mm → Option Unit} {v4 : Int32} (hK : ∀ {t u w v : Nat} {x : Option Nat} {m : Mm}, isTo t → isTo u → isWk w → isWk v → (∀ b, x = some b → isTo b) → K t u w v x m = some () → J (bump X 1 6) G ρ 126 7 1393 [(0, .ref 4000), (1, .ref 0), (2, .ref 78), (3, .ref 125), (4, .int v4)] [] (RT t u w v x) m) {m : Mm} (h : f_law_c2 L xs t u w v x K v4 m = some ()) : J X G ρ 126 7 360 [(0, .ref 4000), (1, .ref 0), (2, .ref 78), (3, .ref 125), (4, .int v4)] [] (RT t u w v x) m := by
  unfold f_law_c2 at h
  refine J_aload_n hX dL_law_360 rfl 1 rfl ?_
  obtain ⟨r2, m1, h0, h⟩ := bd2_some h
  refine J_callVi (As := []) (st := []) hX dL_law_361 cw_RL_31 (by omega) (c_X10_work hn ht hu hw hv h0) (ltn ltc_0 hn) lo_0 (by decide) rfl rfl rfl (Nat.le_of_ble_eq_true rfl) ?_
  clear h0
  refine J_split h (fun c h => ?_) (fun c h => ?_)
  · rw [show rtW t u w v x r2 = RT t u v w x from if_pos c]
    refine J_aload_n hX dL_law_364 rfl 2 rfl ?_
    obtain ⟨r4, m3, h0, h⟩ := bd2_some h
    refine J_callVi (As := []) (st := [.int r2]) hX dL_law_365 cw_RL_34 (by omega) (c_X11_work hn  h0) (ltn ltc_78 hn) lo_78 (by decide) rfl rfl rfl (Nat.le_of_ble_eq_true rfl) ?_
    clear h0
    refine J_icmp_eq hX 1393 dL_law_368 (by decide) h (fun c h => ?_) (fun c h => ?_)
    · exact J_widenY (X.2.2.1 + 1) (X.2.2.2.1 + 6) (by (try simp only [bump]); omega) (by (try simp only [bump]); omega) (hK ht hu hv hw hx h)
    · refine J_iconst hX (0 : Int32) dL_law_371 ic_0 ?_
      cases h
  · rw [show rtW t u w v x r2 = RT t u w v x from if_neg c]
    refine J_aload_n hX dL_law_364 rfl 2 rfl ?_
    obtain ⟨r6, m5, h0, h⟩ := bd2_some h
    refine J_callVi (As := []) (st := [.int r2]) hX dL_law_365 cw_RL_34 (by omega) (c_X11_work hn  h0) (ltn ltc_78 hn) lo_78 (by decide) rfl rfl rfl (Nat.le_of_ble_eq_true rfl) ?_
    clear h0
    refine J_icmp_eq hX 1393 dL_law_368 (by decide) h (fun c h => ?_) (fun c h => ?_)
    · exact J_widenY (X.2.2.1 + 1) (X.2.2.2.1 + 6) (by (try simp only [bump]); omega) (by (try simp only [bump]); omega) (hK ht hu hw hv hx h)
    · refine J_iconst hX (0 : Int32) dL_law_371 ic_0 ?_
      cases h
theorem t_law_c3 {X : XX} {G : GG} {ρ : Nat → Nat} {d L : Nat} {xs : Nat → Int32} {t u w v : Nat} {x : Option Nat} (hX : Ok X G ρ cL_law 7 RL d) (hsc : Scr X G ρ L xs) (hd0 : 400 ≤ d) (hn : 126 ≤ 126) (hr1 : X.2.2.1 + 1 ≤ X.1.2.2.2.1.cells) (hr2 : X.2.2.2.1 + 6 ≤ X.1.2.2.2.1.slots) (ht : isTo t) (hu : isTo u) (hw : isWk w) (hv : isWk v) (hx : ∀ b, x = some b → isTo b) {K : Nat → Nat → Nat → Nat → Option Nat → Mm → Option Unit} {v4 : Int32} (hK : ∀ {t u w v : Nat} {x : Option Nat} {m : Mm}, isTo t → isTo u → isWk w → isWk v → (∀ b, x = some b → isTo b) → K t u w v x m = some () → J (bump X 1 6) G ρ 126 7 1393 [(0, .ref 4000), (1, .ref 0), (2, .ref 78), (3, .ref 125), (4, .int v4)] [] (RT t u w v x) m) {m : Mm} (h : f_law_c3 L xs t u w v x K v4 m = some ()) : J X G ρ 126 7 373 [(0, .ref 4000), (1, .ref 0), (2, .ref 78), (3, .ref 125), (4, .int v4)] [] (RT t u w v x) m := by
  unfold f_law_c3 at h
  refine J_aload_n hX dL_law_373 rfl 1 rfl ?_
  refine J_aload_n hX dL_law_374 rfl 0 rfl ?_
  refine J_iload hX dL_law_375 4 rfl ?_
  refine J_iconst hX (1 : Int32) dL_law_377 ic_1 ?_
  refine J_iadd hX dL_law_378 ?_
  refine J_sld hX hsc dL_law_379 h (fun h => ?_)
  refine J_aload_n hX dL_law_380 rfl 0 rfl ?_
  refine J_iload hX dL_law_381 4 rfl ?_
  refine J_iconst hX (2 : Int32) dL_law_383 ic_2 ?_
  refine J_iadd hX dL_law_384 ?_
  refine J_sld hX hsc dL_law_385 h (fun h => ?_)
  obtain ⟨r2, m1, h0, h⟩ := bd2_some h
  refine J_callVi (As := [.int (xs (ix (v4 + (1 : Int32)))), .int (xs (ix (v4 + (2 : Int32))))]) (st := []) hX dL_law_386 cw_RL_35 (by omega) (c_X10_stripe hn ht hu hw hv h0) (ltn ltc_0 hn) lo_0 (by decide) rfl rfl rfl (Nat.le_of_ble_eq_true rfl) ?_
  clear h0
  refine J_aload_n hX dL_law_389 rfl 2 rfl ?_
  refine J_aload_n hX dL_law_390 rfl 0 rfl ?_
  refine J_iload hX dL_law_391 4 rfl ?_
  refine J_iconst hX (1 : Int32) dL_law_393 ic_1 ?_
  refine J_iadd hX dL_law_394 ?_
  refine J_sld hX hsc dL_law_395 h (fun h => ?_)
  refine J_aload_n hX dL_law_396 rfl 0 rfl ?_
  refine J_iload hX dL_law_397 4 rfl ?_
  refine J_iconst hX (2 : Int32) dL_law_399 ic_2 ?_
  refine J_iadd hX dL_law_400 ?_
  refine J_sld hX hsc dL_law_401 h (fun h => ?_)
  obtain ⟨r4, m3, h0, h⟩ := bd2_some h
  refine J_callVi (As := [.int (xs (ix (v4 + (1 : Int32)))), .int (xs (ix (v4 + (2 : Int32))))]) (st := [.int r2]) hX dL_law_402 cw_RL_39 (by omega) (c_X11_stripe hn  h0) (ltn ltc_78 hn) lo_78 (by decide) rfl rfl rfl (Nat.le_of_ble_eq_true rfl) ?_
  clear h0
  refine J_icmp_eq hX 1393 dL_law_405 (by decide) h (fun c h => ?_) (fun c h => ?_)
  · exact J_widenY (X.2.2.1 + 1) (X.2.2.2.1 + 6) (by (try simp only [bump]); omega) (by (try simp only [bump]); omega) (hK ht hu hw hv hx h)
  · refine J_iconst hX (0 : Int32) dL_law_408 ic_0 ?_
    cases h
theorem t_law_c4 {X : XX} {G : GG} {ρ : Nat → Nat} {d L : Nat} {xs : Nat → Int32} {t u w v : Nat} {x : Option Nat} (hX : Ok X G ρ cL_law 7 RL d) (hsc : Scr X G ρ L xs) (hd0 : 400 ≤ d) (hn : 126 ≤ 126) (hr1 : X.2.2.1 + 1 ≤ X.1.2.2.2.1.cells) (hr2 : X.2.2.2.1 + 6 ≤ X.1.2.2.2.1.slots) (ht : isTo t) (hu : isTo u) (hw : isWk w) (hv : isWk v) (hx : ∀ b, x = some b → isTo b) {K : Nat → Nat → Nat → Nat → Option Nat → Mm → Option Unit} {v4 : Int32} (hK : ∀ {t u w v : Nat} {x : Option Nat} {m : Mm}, isTo t → isTo u → isWk w → isWk v → (∀ b, x = some b → isTo b) → K t u w v x m = some () → J (bump X 1 6) G ρ 126 7 1393 [(0, .ref 4000), (1, .ref 0), (2, .ref 78), (3, .ref 125), (4, .int v4)] [] (RT t u w v x) m) {m : Mm} (h : f_law_c4 L xs t u w v x K v4 m = some ()) : J X G ρ 126 7 410 [(0, .ref 4000), (1, .ref 0), (2, .ref 78), (3, .ref 125), (4, .int v4)] [] (RT t u w v x) m := by
  unfold f_law_c4 at h
  refine J_aload_n hX dL_law_410 rfl 1 rfl ?_
  refine J_aload_n hX dL_law_411 rfl 0 rfl ?_
  refine J_iload hX dL_law_412 4 rfl ?_
  refine J_iconst hX (1 : Int32) dL_law_414 ic_1 ?_
  refine J_iadd hX dL_law_415 ?_
  refine J_sld hX hsc dL_law_416 h (fun h => ?_)
  refine J_aload_n hX dL_law_417 rfl 0 rfl ?_
  refine J_iload hX dL_law_418 4 rfl ?_
  refine J_iconst hX (2 : Int32) dL_law_420 ic_2 ?_
  refine J_iadd hX dL_law_421 ?_
  refine J_sld hX hsc dL_law_422 h (fun h => ?_)
  refine J_aload_n hX dL_law_423 rfl 0 rfl ?_
  refine J_iload hX dL_law_424 4 rfl ?_
  refine J_iconst hX (3 : Int32) dL_law_426 ic_3 ?_
  refine J_iadd hX dL_law_427 ?_
  refine J_sld hX hsc dL_law_428 h (fun h => ?_)
  obtain ⟨r2, m1, h0, h⟩ := bd2_some h
  refine J_callVi (As := [.int (xs (ix (v4 + (1 : Int32)))), .int (xs (ix (v4 + (2 : Int32)))), .int (xs (ix (v4 + (3 : Int32))))]) (st := []) hX dL_law_429 cw_RL_40 (by omega) (c_X10_unit hn ht hu hw hv h0) (ltn ltc_0 hn) lo_0 (by decide) rfl rfl rfl (Nat.le_of_ble_eq_true rfl) ?_
  clear h0
  refine J_aload_n hX dL_law_432 rfl 2 rfl ?_
  refine J_aload_n hX dL_law_433 rfl 0 rfl ?_
  refine J_iload hX dL_law_434 4 rfl ?_
  refine J_iconst hX (1 : Int32) dL_law_436 ic_1 ?_
  refine J_iadd hX dL_law_437 ?_
  refine J_sld hX hsc dL_law_438 h (fun h => ?_)
  refine J_aload_n hX dL_law_439 rfl 0 rfl ?_
  refine J_iload hX dL_law_440 4 rfl ?_
  refine J_iconst hX (2 : Int32) dL_law_442 ic_2 ?_
  refine J_iadd hX dL_law_443 ?_
  refine J_sld hX hsc dL_law_444 h (fun h => ?_)
  refine J_aload_n hX dL_law_445 rfl 0 rfl ?_
  refine J_iload hX dL_law_446 4 rfl ?_
  refine J_iconst hX (3 : Int32) dL_law_448 ic_3 ?_
  refine J_iadd hX dL_law_449 ?_
  refine J_sld hX hsc dL_law_450 h (fun h => ?_)
  obtain ⟨r4, m3, h0, h⟩ := bd2_some h
  refine J_callVi (As := [.int (xs (ix (v4 + (1 : Int32)))), .int (xs (ix (v4 + (2 : Int32)))), .int (xs (ix (v4 + (3 : Int32))))]) (st := [.int r2]) hX dL_law_451 cw_RL_44 (by omega) (c_X11_unit hn  h0) (ltn ltc_78 hn) lo_78 (by decide) rfl rfl rfl (Nat.le_of_ble_eq_true rfl) ?_
  clear h0
  refine J_icmp_eq hX 1393 dL_law_454 (by decide) h (fun c h => ?_) (fun c h => ?_)
  · exact J_widenY (X.2.2.1 + 1) (X.2.2.2.1 + 6) (by (try simp only [bump]); omega) (by (try simp only [bump]); omega) (hK ht hu hw hv hx h)
  · refine J_iconst hX (0 : Int32) dL_law_457 ic_0 ?_
    cases h
theorem t_law_c5 {X : XX} {G : GG} {ρ : Nat → Nat} {d L : Nat} {xs : Nat → Int32} {t u w v : Nat} {x : Option Nat} (hX : Ok X G ρ cL_law 7 RL d) (hsc : Scr X G ρ L xs) (hd0 : 400 ≤ d) (hn : 126 ≤ 126) (hr1 : X.2.2.1 + 1 ≤ X.1.2.2.2.1.cells) (hr2 : X.2.2.2.1 + 6 ≤ X.1.2.2.2.1.slots) (ht : isTo t) (hu : isTo u) (hw : isWk w) (hv : isWk v) (hx : ∀ b, x = some b → isTo b) {K : Nat → Nat → Nat → Nat → Option Nat → Mm → Option Unit} {v4 : Int32} (hK : ∀ {t u w v : Nat} {x : Option Nat} {m : Mm}, isTo t → isTo u → isWk w → isWk v → (∀ b, x = some b → isTo b) → K t u w v x m = some () → J (bump X 1 6) G ρ 126 7 1393 [(0, .ref 4000), (1, .ref 0), (2, .ref 78), (3, .ref 125), (4, .int v4)] [] (RT t u w v x) m) {m : Mm} (h : f_law_c5 L xs t u w v x K v4 m = some ()) : J X G ρ 126 7 459 [(0, .ref 4000), (1, .ref 0), (2, .ref 78), (3, .ref 125), (4, .int v4)] [] (RT t u w v x) m := by
  unfold f_law_c5 at h
  refine J_aload_n hX dL_law_459 rfl 1 rfl ?_
  refine J_aload_n hX dL_law_460 rfl 0 rfl ?_
  refine J_iload hX dL_law_461 4 rfl ?_
  refine J_iconst hX (1 : Int32) dL_law_463 ic_1 ?_
  refine J_iadd hX dL_law_464 ?_
  refine J_sld hX hsc dL_law_465 h (fun h => ?_)
  refine J_aload_n hX dL_law_466 rfl 0 rfl ?_
  refine J_iload hX dL_law_467 4 rfl ?_
  refine J_iconst hX (2 : Int32) dL_law_469 ic_2 ?_
  refine J_iadd hX dL_law_470 ?_
  refine J_sld hX hsc dL_law_471 h (fun h => ?_)
  obtain ⟨r2, m1, h0, h⟩ := bd2_some h
  refine J_callVi (As := [.int (xs (ix (v4 + (1 : Int32)))), .int (xs (ix (v4 + (2 : Int32))))]) (st := []) hX dL_law_472 cw_RL_45 (by omega) (c_X10_datum hn ht hu hw hv h0) (ltn ltc_0 hn) lo_0 (by decide) rfl rfl rfl (Nat.le_of_ble_eq_true rfl) ?_
  clear h0
  refine J_aload_n hX dL_law_475 rfl 2 rfl ?_
  refine J_aload_n hX dL_law_476 rfl 0 rfl ?_
  refine J_iload hX dL_law_477 4 rfl ?_
  refine J_iconst hX (1 : Int32) dL_law_479 ic_1 ?_
  refine J_iadd hX dL_law_480 ?_
  refine J_sld hX hsc dL_law_481 h (fun h => ?_)
  refine J_aload_n hX dL_law_482 rfl 0 rfl ?_
  refine J_iload hX dL_law_483 4 rfl ?_
  refine J_iconst hX (2 : Int32) dL_law_485 ic_2 ?_
  refine J_iadd hX dL_law_486 ?_
  refine J_sld hX hsc dL_law_487 h (fun h => ?_)
  obtain ⟨r4, m3, h0, h⟩ := bd2_some h
  refine J_callVi (As := [.int (xs (ix (v4 + (1 : Int32)))), .int (xs (ix (v4 + (2 : Int32))))]) (st := [.int r2]) hX dL_law_488 cw_RL_48 (by omega) (c_X11_datum hn  h0) (ltn ltc_78 hn) lo_78 (by decide) rfl rfl rfl (Nat.le_of_ble_eq_true rfl) ?_
  clear h0
  refine J_icmp_eq hX 1393 dL_law_491 (by decide) h (fun c h => ?_) (fun c h => ?_)
  · exact J_widenY (X.2.2.1 + 1) (X.2.2.2.1 + 6) (by (try simp only [bump]); omega) (by (try simp only [bump]); omega) (hK ht hu hw hv hx h)
  · refine J_iconst hX (0 : Int32) dL_law_494 ic_0 ?_
    cases h
theorem t_law_c6 {X : XX} {G : GG} {ρ : Nat → Nat} {d L : Nat} {xs : Nat → Int32} {t u w v : Nat} {x : Option Nat} (hX : Ok X G ρ cL_law 7 RL d) (hsc : Scr X G ρ L xs) (hd0 : 400 ≤ d) (hn : 126 ≤ 126) (hr1 : X.2.2.1 + 1 ≤ X.1.2.2.2.1.cells) (hr2 : X.2.2.2.1 + 6 ≤ X.1.2.2.2.1.slots) (ht : isTo t) (hu : isTo u) (hw : isWk w) (hv : isWk v) (hx : ∀ b, x = some b → isTo b) {K : Nat → Nat → Nat → Nat → Option Nat → Mm → Option Unit} {v4 : Int32} (hK : ∀ {t u w v : Nat} {x : Option Nat} {m : Mm}, isTo t → isTo u → isWk w → isWk v → (∀ b, x = some b → isTo b) → K t u w v x m = some () → J (bump X 1 6) G ρ 126 7 1393 [(0, .ref 4000), (1, .ref 0), (2, .ref 78), (3, .ref 125), (4, .int v4)] [] (RT t u w v x) m) {m : Mm} (h : f_law_c6 L xs t u w v x K v4 m = some ()) : J X G ρ 126 7 496 [(0, .ref 4000), (1, .ref 0), (2, .ref 78), (3, .ref 125), (4, .int v4)] [] (RT t u w v x) m := by
  unfold f_law_c6 at h
  refine J_aload_n hX dL_law_496 rfl 1 rfl ?_
  refine J_aload_n hX dL_law_497 rfl 0 rfl ?_
  refine J_iload hX dL_law_498 4 rfl ?_
  refine J_iconst hX (1 : Int32) dL_law_500 ic_1 ?_
  refine J_iadd hX dL_law_501 ?_
  refine J_sld hX hsc dL_law_502 h (fun h => ?_)
  refine J_aload_n hX dL_law_503 rfl 0 rfl ?_
  refine J_iload hX dL_law_504 4 rfl ?_
  refine J_iconst hX (2 : Int32) dL_law_506 ic_2 ?_
  refine J_iadd hX dL_law_507 ?_
  refine J_sld hX hsc dL_law_508 h (fun h => ?_)
  obtain ⟨r2, m1, h0, h⟩ := bd2_some h
  refine J_callVi (As := [.int (xs (ix (v4 + (1 : Int32)))), .int (xs (ix (v4 + (2 : Int32))))]) (st := []) hX dL_law_509 cw_RL_49 (by omega) (c_X10_at hn ht hu hw hv h0) (ltn ltc_0 hn) lo_0 (by decide) rfl rfl rfl (Nat.le_of_ble_eq_true rfl) ?_
  clear h0
  refine J_aload_n hX dL_law_512 rfl 2 rfl ?_
  refine J_aload_n hX dL_law_513 rfl 0 rfl ?_
  refine J_iload hX dL_law_514 4 rfl ?_
  refine J_iconst hX (1 : Int32) dL_law_516 ic_1 ?_
  refine J_iadd hX dL_law_517 ?_
  refine J_sld hX hsc dL_law_518 h (fun h => ?_)
  refine J_aload_n hX dL_law_519 rfl 0 rfl ?_
  refine J_iload hX dL_law_520 4 rfl ?_
  refine J_iconst hX (2 : Int32) dL_law_522 ic_2 ?_
  refine J_iadd hX dL_law_523 ?_
  refine J_sld hX hsc dL_law_524 h (fun h => ?_)
  obtain ⟨r4, m3, h0, h⟩ := bd2_some h
  refine J_callVi (As := [.int (xs (ix (v4 + (1 : Int32)))), .int (xs (ix (v4 + (2 : Int32))))]) (st := [.int r2]) hX dL_law_525 cw_RL_52 (by omega) (c_X11_at hn  h0) (ltn ltc_78 hn) lo_78 (by decide) rfl rfl rfl (Nat.le_of_ble_eq_true rfl) ?_
  clear h0
  refine J_icmp_eq hX 1393 dL_law_528 (by decide) h (fun c h => ?_) (fun c h => ?_)
  · exact J_widenY (X.2.2.1 + 1) (X.2.2.2.1 + 6) (by (try simp only [bump]); omega) (by (try simp only [bump]); omega) (hK ht hu hw hv hx h)
  · refine J_iconst hX (0 : Int32) dL_law_531 ic_0 ?_
    cases h
theorem t_law_c7 {X : XX} {G : GG} {ρ : Nat → Nat} {d L : Nat} {xs : Nat → Int32} {t u w v : Nat} {x : Option Nat} (hX : Ok X G ρ cL_law 7 RL d) (hsc : Scr X G ρ L xs) (hd0 : 400 ≤ d) (hn : 126 ≤ 126) (hr1 : X.2.2.1 + 1 ≤ X.1.2.2.2.1.cells) (hr2 : X.2.2.2.1 + 6 ≤ X.1.2.2.2.1.slots) (ht : isTo t) (hu : isTo u) (hw : isWk w) (hv : isWk v) (hx : ∀ b, x = some b → isTo b) {K : Nat → Nat → Nat → Nat → Option Nat → Mm → Option Unit} {v4 : Int32} (hK : ∀ {t u w v : Nat} {x : Option Nat} {m : Mm}, isTo t → isTo u → isWk w → isWk v → (∀ b, x = some b → isTo b) → K t u w v x m = some () → J (bump X 1 6) G ρ 126 7 1393 [(0, .ref 4000), (1, .ref 0), (2, .ref 78), (3, .ref 125), (4, .int v4)] [] (RT t u w v x) m) {m : Mm} (h : f_law_c7 L xs t u w v x K v4 m = some ()) : J X G ρ 126 7 533 [(0, .ref 4000), (1, .ref 0), (2, .ref 78), (3, .ref 125), (4, .int v4)] [] (RT t u w v x) m := by
  unfold f_law_c7 at h
  refine J_aload_n hX dL_law_533 rfl 1 rfl ?_
  refine J_aload_n hX dL_law_534 rfl 0 rfl ?_
  refine J_iload hX dL_law_535 4 rfl ?_
  refine J_iconst hX (1 : Int32) dL_law_537 ic_1 ?_
  refine J_iadd hX dL_law_538 ?_
  refine J_sld hX hsc dL_law_539 h (fun h => ?_)
  refine J_aload_n hX dL_law_540 rfl 0 rfl ?_
  refine J_iload hX dL_law_541 4 rfl ?_
  refine J_iconst hX (2 : Int32) dL_law_543 ic_2 ?_
  refine J_iadd hX dL_law_544 ?_
  refine J_sld hX hsc dL_law_545 h (fun h => ?_)
  obtain ⟨r2, m1, h0, h⟩ := bd2_some h
  refine J_callVi (As := [.int (xs (ix (v4 + (1 : Int32)))), .int (xs (ix (v4 + (2 : Int32))))]) (st := []) hX dL_law_546 cw_RL_53 (by omega) (c_X10_disk hn ht hu hw hv h0) (ltn ltc_0 hn) lo_0 (by decide) rfl rfl rfl (Nat.le_of_ble_eq_true rfl) ?_
  clear h0
  refine J_aload_n hX dL_law_549 rfl 2 rfl ?_
  refine J_aload_n hX dL_law_550 rfl 0 rfl ?_
  refine J_iload hX dL_law_551 4 rfl ?_
  refine J_iconst hX (1 : Int32) dL_law_553 ic_1 ?_
  refine J_iadd hX dL_law_554 ?_
  refine J_sld hX hsc dL_law_555 h (fun h => ?_)
  refine J_aload_n hX dL_law_556 rfl 0 rfl ?_
  refine J_iload hX dL_law_557 4 rfl ?_
  refine J_iconst hX (2 : Int32) dL_law_559 ic_2 ?_
  refine J_iadd hX dL_law_560 ?_
  refine J_sld hX hsc dL_law_561 h (fun h => ?_)
  obtain ⟨r4, m3, h0, h⟩ := bd2_some h
  refine J_callVi (As := [.int (xs (ix (v4 + (1 : Int32)))), .int (xs (ix (v4 + (2 : Int32))))]) (st := [.int r2]) hX dL_law_562 cw_RL_56 (by omega) (c_X11_disk hn  h0) (ltn ltc_78 hn) lo_78 (by decide) rfl rfl rfl (Nat.le_of_ble_eq_true rfl) ?_
  clear h0
  refine J_icmp_eq hX 1393 dL_law_565 (by decide) h (fun c h => ?_) (fun c h => ?_)
  · exact J_widenY (X.2.2.1 + 1) (X.2.2.2.1 + 6) (by (try simp only [bump]); omega) (by (try simp only [bump]); omega) (hK ht hu hw hv hx h)
  · refine J_iconst hX (0 : Int32) dL_law_568 ic_0 ?_
    cases h
theorem t_law_c8 {X : XX} {G : GG} {ρ : Nat → Nat} {d L : Nat} {xs : Nat → Int32} {t u w v : Nat} {x : Option Nat} (hX : Ok X G ρ cL_law 7 RL d) (hsc : Scr X G ρ L xs) (hd0 : 400 ≤ d) (hn : 126 ≤ 126) (hr1 : X.2.2.1 + 1 ≤ X.1.2.2.2.1.cells) (hr2 : X.2.2.2.1 + 6 ≤ X.1.2.2.2.1.slots) (ht : isTo t) (hu : isTo u) (hw : isWk w) (hv : isWk v) (hx : ∀ b, x = some b → isTo b) {K : Nat → Nat → Nat → Nat → Option Nat → Mm → Option Unit} {v4 : Int32} (hK : ∀ {t u w v : Nat} {x : Option Nat} {m : Mm}, isTo t → isTo u → isWk w → isWk v → (∀ b, x = some b → isTo b) → K t u w v x m = some () → J (bump X 1 6) G ρ 126 7 1393 [(0, .ref 4000), (1, .ref 0), (2, .ref 78), (3, .ref 125), (4, .int v4)] [] (RT t u w v x) m) {m : Mm} (h : f_law_c8 L xs t u w v x K v4 m = some ()) : J X G ρ 126 7 570 [(0, .ref 4000), (1, .ref 0), (2, .ref 78), (3, .ref 125), (4, .int v4)] [] (RT t u w v x) m := by
  unfold f_law_c8 at h
  refine J_aload_n hX dL_law_570 rfl 1 rfl ?_
  refine J_aload_n hX dL_law_571 rfl 0 rfl ?_
  refine J_iload hX dL_law_572 4 rfl ?_
  refine J_iconst hX (1 : Int32) dL_law_574 ic_1 ?_
  refine J_iadd hX dL_law_575 ?_
  refine J_sld hX hsc dL_law_576 h (fun h => ?_)
  obtain ⟨r2, m1, h0, h⟩ := bd2_some h
  refine J_callVi (As := [.int (xs (ix (v4 + (1 : Int32))))]) (st := []) hX dL_law_577 cw_RL_57 (by omega) (c_X10_read hn ht hu hw hv h0) (ltn ltc_0 hn) lo_0 (by decide) rfl rfl rfl (Nat.le_of_ble_eq_true rfl) ?_
  clear h0
  refine J_aload_n hX dL_law_580 rfl 2 rfl ?_
  refine J_aload_n hX dL_law_581 rfl 0 rfl ?_
  refine J_iload hX dL_law_582 4 rfl ?_
  refine J_iconst hX (1 : Int32) dL_law_584 ic_1 ?_
  refine J_iadd hX dL_law_585 ?_
  refine J_sld hX hsc dL_law_586 h (fun h => ?_)
  obtain ⟨r4, m3, h0, h⟩ := bd2_some h
  refine J_callVi (As := [.int (xs (ix (v4 + (1 : Int32))))]) (st := [.int r2]) hX dL_law_587 cw_RL_60 (by omega) (c_X11_read hn  h0) (ltn ltc_78 hn) lo_78 (by decide) rfl rfl rfl (Nat.le_of_ble_eq_true rfl) ?_
  clear h0
  refine J_icmp_eq hX 1393 dL_law_590 (by decide) h (fun c h => ?_) (fun c h => ?_)
  · exact J_widenY (X.2.2.1 + 1) (X.2.2.2.1 + 6) (by (try simp only [bump]); omega) (by (try simp only [bump]); omega) (hK ht hu hw hv hx h)
  · refine J_iconst hX (0 : Int32) dL_law_593 ic_0 ?_
    cases h
theorem t_law_c9 {X : XX} {G : GG} {ρ : Nat → Nat} {d L : Nat} {xs : Nat → Int32} {t u w v : Nat} {x : Option Nat} (hX : Ok X G ρ cL_law 7 RL d) (hsc : Scr X G ρ L xs) (hd0 : 400 ≤ d) (hn : 126 ≤ 126) (hr1 : X.2.2.1 + 1 ≤ X.1.2.2.2.1.cells) (hr2 : X.2.2.2.1 + 6 ≤ X.1.2.2.2.1.slots) (ht : isTo t) (hu : isTo u) (hw : isWk w) (hv : isWk v) (hx : ∀ b, x = some b → isTo b) {K : Nat → Nat → Nat → Nat → Option Nat → Mm → Option Unit} {v4 : Int32} (hK : ∀ {t u w v : Nat} {x : Option Nat} {m : Mm}, isTo t → isTo u → isWk w → isWk v → (∀ b, x = some b → isTo b) → K t u w v x m = some () → J (bump X 1 6) G ρ 126 7 1393 [(0, .ref 4000), (1, .ref 0), (2, .ref 78), (3, .ref 125), (4, .int v4)] [] (RT t u w v x) m) {m : Mm} (h : f_law_c9 L xs t u w v x K v4 m = some ()) : J X G ρ 126 7 595 [(0, .ref 4000), (1, .ref 0), (2, .ref 78), (3, .ref 125), (4, .int v4)] [] (RT t u w v x) m := by
  unfold f_law_c9 at h
  refine J_aload_n hX dL_law_595 rfl 1 rfl ?_
  refine J_aload_n hX dL_law_596 rfl 0 rfl ?_
  refine J_iload hX dL_law_597 4 rfl ?_
  refine J_iconst hX (1 : Int32) dL_law_599 ic_1 ?_
  refine J_iadd hX dL_law_600 ?_
  refine J_sld hX hsc dL_law_601 h (fun h => ?_)
  refine J_aload_n hX dL_law_602 rfl 0 rfl ?_
  refine J_iload hX dL_law_603 4 rfl ?_
  refine J_iconst hX (2 : Int32) dL_law_605 ic_2 ?_
  refine J_iadd hX dL_law_606 ?_
  refine J_sld hX hsc dL_law_607 h (fun h => ?_)
  obtain ⟨r2, m1, h0, h⟩ := bd2_some h
  refine J_callVi (As := [.int (xs (ix (v4 + (1 : Int32)))), .int (xs (ix (v4 + (2 : Int32))))]) (st := []) hX dL_law_608 cw_RL_61 (by omega) (c_X10_write hn ht hu hw hv h0) (ltn ltc_0 hn) lo_0 (by decide) rfl rfl rfl (Nat.le_of_ble_eq_true rfl) ?_
  clear h0
  refine J_aload_n hX dL_law_611 rfl 2 rfl ?_
  refine J_aload_n hX dL_law_612 rfl 0 rfl ?_
  refine J_iload hX dL_law_613 4 rfl ?_
  refine J_iconst hX (1 : Int32) dL_law_615 ic_1 ?_
  refine J_iadd hX dL_law_616 ?_
  refine J_sld hX hsc dL_law_617 h (fun h => ?_)
  refine J_aload_n hX dL_law_618 rfl 0 rfl ?_
  refine J_iload hX dL_law_619 4 rfl ?_
  refine J_iconst hX (2 : Int32) dL_law_621 ic_2 ?_
  refine J_iadd hX dL_law_622 ?_
  refine J_sld hX hsc dL_law_623 h (fun h => ?_)
  obtain ⟨r4, m3, h0, h⟩ := bd2_some h
  refine J_callVi (As := [.int (xs (ix (v4 + (1 : Int32)))), .int (xs (ix (v4 + (2 : Int32))))]) (st := [.int r2]) hX dL_law_624 cw_RL_64 (by omega) (c_X11_write hn  h0) (ltn ltc_78 hn) lo_78 (by decide) rfl rfl rfl (Nat.le_of_ble_eq_true rfl) ?_
  clear h0
  refine J_icmp_eq hX 1393 dL_law_627 (by decide) h (fun c h => ?_) (fun c h => ?_)
  · exact J_widenY (X.2.2.1 + 1) (X.2.2.2.1 + 6) (by (try simp only [bump]); omega) (by (try simp only [bump]); omega) (hK ht hu hw hv hx h)
  · refine J_iconst hX (0 : Int32) dL_law_630 ic_0 ?_
    cases h
theorem t_law_c10 {X : XX} {G : GG} {ρ : Nat → Nat} {d L : Nat} {xs : Nat → Int32} {t u w v : Nat} {x : Option Nat} (hX : Ok X G ρ cL_law 7 RL d) (hsc : Scr X G ρ L xs) (hd0 : 400 ≤ d) (hn : 126 ≤ 126) (hr1 : X.2.2.1 + 1 ≤ X.1.2.2.2.1.cells) (hr2 : X.2.2.2.1 + 6 ≤ X.1.2.2.2.1.slots) (ht : isTo t) (hu : isTo u) (hw : isWk w) (hv : isWk v) (hx : ∀ b, x = some b → isTo b) {K : Nat → Nat → Nat → Nat → Option Nat → Mm → Option Unit} {v4 : Int32} (hK : ∀ {t u w v : Nat} {x : Option Nat} {m : Mm}, isTo t → isTo u → isWk w → isWk v → (∀ b, x = some b → isTo b) → K t u w v x m = some () → J (bump X 1 6) G ρ 126 7 1393 [(0, .ref 4000), (1, .ref 0), (2, .ref 78), (3, .ref 125), (4, .int v4)] [] (RT t u w v x) m) {m : Mm} (h : f_law_c10 L xs t u w v x K v4 m = some ()) : J X G ρ 126 7 632 [(0, .ref 4000), (1, .ref 0), (2, .ref 78), (3, .ref 125), (4, .int v4)] [] (RT t u w v x) m := by
  unfold f_law_c10 at h
  refine J_aload_n hX dL_law_632 rfl 1 rfl ?_
  refine J_aload_n hX dL_law_633 rfl 0 rfl ?_
  refine J_iload hX dL_law_634 4 rfl ?_
  refine J_iconst hX (1 : Int32) dL_law_636 ic_1 ?_
  refine J_iadd hX dL_law_637 ?_
  refine J_sld hX hsc dL_law_638 h (fun h => ?_)
  obtain ⟨r2, m1, h0, h⟩ := bd2_some h
  refine J_callVi (As := [.int (xs (ix (v4 + (1 : Int32))))]) (st := []) hX dL_law_639 cw_RL_65 (by omega) (c_X10_lose hn ht hu hw hv h0) (ltn ltc_0 hn) lo_0 (by decide) rfl rfl rfl (Nat.le_of_ble_eq_true rfl) ?_
  clear h0
  refine J_aload_n hX dL_law_642 rfl 2 rfl ?_
  refine J_aload_n hX dL_law_643 rfl 0 rfl ?_
  refine J_iload hX dL_law_644 4 rfl ?_
  refine J_iconst hX (1 : Int32) dL_law_646 ic_1 ?_
  refine J_iadd hX dL_law_647 ?_
  refine J_sld hX hsc dL_law_648 h (fun h => ?_)
  obtain ⟨r4, m3, h0, h⟩ := bd2_some h
  refine J_callVi (As := [.int (xs (ix (v4 + (1 : Int32))))]) (st := [.int r2]) hX dL_law_649 cw_RL_68 (by omega) (c_X11_lose hn  h0) (ltn ltc_78 hn) lo_78 (by decide) rfl rfl rfl (Nat.le_of_ble_eq_true rfl) ?_
  clear h0
  refine J_icmp_eq hX 1393 dL_law_652 (by decide) h (fun c h => ?_) (fun c h => ?_)
  · exact J_widenY (X.2.2.1 + 1) (X.2.2.2.1 + 6) (by (try simp only [bump]); omega) (by (try simp only [bump]); omega) (hK ht hu hw hv hx h)
  · refine J_iconst hX (0 : Int32) dL_law_655 ic_0 ?_
    cases h
theorem t_law_c11 {X : XX} {G : GG} {ρ : Nat → Nat} {d L : Nat} {xs : Nat → Int32} {t u w v : Nat} {x : Option Nat} (hX : Ok X G ρ cL_law 7 RL d) (hsc : Scr X G ρ L xs) (hd0 : 400 ≤ d) (hn : 126 ≤ 126) (hr1 : X.2.2.1 + 1 ≤ X.1.2.2.2.1.cells) (hr2 : X.2.2.2.1 + 6 ≤ X.1.2.2.2.1.slots) (ht : isTo t) (hu : isTo u) (hw : isWk w) (hv : isWk v) (hx : ∀ b, x = some b → isTo b) {K : Nat → Nat → Nat → Nat → Option Nat → Mm → Option Unit} {v4 : Int32} (hK : ∀ {t u w v : Nat} {x : Option Nat} {m : Mm}, isTo t → isTo u → isWk w → isWk v → (∀ b, x = some b → isTo b) → K t u w v x m = some () → J (bump X 1 6) G ρ 126 7 1393 [(0, .ref 4000), (1, .ref 0), (2, .ref 78), (3, .ref 125), (4, .int v4)] [] (RT t u w v x) m) {m : Mm} (h : f_law_c11 L xs t u w v x K v4 m = some ()) : J X G ρ 126 7 657 [(0, .ref 4000), (1, .ref 0), (2, .ref 78), (3, .ref 125), (4, .int v4)] [] (RT t u w v x) m := by
  unfold f_law_c11 at h
  refine J_aload_n hX dL_law_657 rfl 1 rfl ?_
  refine J_aload_n hX dL_law_658 rfl 0 rfl ?_
  refine J_iload hX dL_law_659 4 rfl ?_
  refine J_iconst hX (1 : Int32) dL_law_661 ic_1 ?_
  refine J_iadd hX dL_law_662 ?_
  refine J_sld hX hsc dL_law_663 h (fun h => ?_)
  obtain ⟨r2, m1, h0, h⟩ := bd2_some h
  refine J_callVi (As := [.int (xs (ix (v4 + (1 : Int32))))]) (st := []) hX dL_law_664 cw_RL_69 (by omega) (c_X10_replace hn ht hu hw hv h0) (ltn ltc_0 hn) lo_0 (by decide) rfl rfl rfl (Nat.le_of_ble_eq_true rfl) ?_
  clear h0
  refine J_aload_n hX dL_law_667 rfl 2 rfl ?_
  refine J_aload_n hX dL_law_668 rfl 0 rfl ?_
  refine J_iload hX dL_law_669 4 rfl ?_
  refine J_iconst hX (1 : Int32) dL_law_671 ic_1 ?_
  refine J_iadd hX dL_law_672 ?_
  refine J_sld hX hsc dL_law_673 h (fun h => ?_)
  obtain ⟨r4, m3, h0, h⟩ := bd2_some h
  refine J_callVi (As := [.int (xs (ix (v4 + (1 : Int32))))]) (st := [.int r2]) hX dL_law_674 cw_RL_73 (by omega) (c_X11_replace hn  h0) (ltn ltc_78 hn) lo_78 (by decide) rfl rfl rfl (Nat.le_of_ble_eq_true rfl) ?_
  clear h0
  refine J_icmp_eq hX 1393 dL_law_677 (by decide) h (fun c h => ?_) (fun c h => ?_)
  · exact J_widenY (X.2.2.1 + 1) (X.2.2.2.1 + 6) (by (try simp only [bump]); omega) (by (try simp only [bump]); omega) (hK ht hu hw hv hx h)
  · refine J_iconst hX (0 : Int32) dL_law_680 ic_0 ?_
    cases h
theorem t_law_c12 {X : XX} {G : GG} {ρ : Nat → Nat} {d L : Nat} {xs : Nat → Int32} {t u w v : Nat} {x : Option Nat} (hX : Ok X G ρ cL_law 7 RL d) (hsc : Scr X G ρ L xs) (hd0 : 400 ≤ d) (hn : 126 ≤ 126) (hr1 : X.2.2.1 + 1 ≤ X.1.2.2.2.1.cells) (hr2 : X.2.2.2.1 + 6 ≤ X.1.2.2.2.1.slots) (ht : isTo t) (hu : isTo u) (hw : isWk w) (hv : isWk v) (hx : ∀ b, x = some b → isTo b) {K : Nat → Nat → Nat → Nat → Option Nat → Mm → Option Unit} {v4 : Int32} (hK : ∀ {t u w v : Nat} {x : Option Nat} {m : Mm}, isTo t → isTo u → isWk w → isWk v → (∀ b, x = some b → isTo b) → K t u w v x m = some () → J (bump X 1 6) G ρ 126 7 1393 [(0, .ref 4000), (1, .ref 0), (2, .ref 78), (3, .ref 125), (4, .int v4)] [] (RT t u w v x) m) {m : Mm} (h : f_law_c12 L xs t u w v x K v4 m = some ()) : J X G ρ 126 7 682 [(0, .ref 4000), (1, .ref 0), (2, .ref 78), (3, .ref 125), (4, .int v4)] [] (RT t u w v x) m := by
  unfold f_law_c12 at h
  refine J_aload_n hX dL_law_682 rfl 1 rfl ?_
  refine J_aload_n hX dL_law_683 rfl 0 rfl ?_
  refine J_iload hX dL_law_684 4 rfl ?_
  refine J_iconst hX (1 : Int32) dL_law_686 ic_1 ?_
  refine J_iadd hX dL_law_687 ?_
  refine J_sld hX hsc dL_law_688 h (fun h => ?_)
  obtain ⟨r2, m1, h0, h⟩ := bd2_some h
  refine J_callVi (As := [.int (xs (ix (v4 + (1 : Int32))))]) (st := []) hX dL_law_689 cw_RL_74 (by omega) (c_X10_rebuild hn ht hu hw hv h0) (ltn ltc_0 hn) lo_0 (by decide) rfl rfl rfl (Nat.le_of_ble_eq_true rfl) ?_
  clear h0
  refine J_aload_n hX dL_law_692 rfl 2 rfl ?_
  refine J_aload_n hX dL_law_693 rfl 0 rfl ?_
  refine J_iload hX dL_law_694 4 rfl ?_
  refine J_iconst hX (1 : Int32) dL_law_696 ic_1 ?_
  refine J_iadd hX dL_law_697 ?_
  refine J_sld hX hsc dL_law_698 h (fun h => ?_)
  obtain ⟨r4, m3, h0, h⟩ := bd2_some h
  refine J_callVi (As := [.int (xs (ix (v4 + (1 : Int32))))]) (st := [.int r2]) hX dL_law_699 cw_RL_77 (by omega) (c_X11_rebuild hn  h0) (ltn ltc_78 hn) lo_78 (by decide) rfl rfl rfl (Nat.le_of_ble_eq_true rfl) ?_
  clear h0
  refine J_icmp_eq hX 1393 dL_law_702 (by decide) h (fun c h => ?_) (fun c h => ?_)
  · exact J_widenY (X.2.2.1 + 1) (X.2.2.2.1 + 6) (by (try simp only [bump]); omega) (by (try simp only [bump]); omega) (hK ht hu hw hv hx h)
  · refine J_iconst hX (0 : Int32) dL_law_705 ic_0 ?_
    cases h
theorem t_law_c13 {X : XX} {G : GG} {ρ : Nat → Nat} {d L : Nat} {xs : Nat → Int32} {t u w v : Nat} {x : Option Nat} (hX : Ok X G ρ cL_law 7 RL d) (hsc : Scr X G ρ L xs) (hd0 : 400 ≤ d) (hn : 126 ≤ 126) (hr1 : X.2.2.1 + 1 ≤ X.1.2.2.2.1.cells) (hr2 : X.2.2.2.1 + 6 ≤ X.1.2.2.2.1.slots) (ht : isTo t) (hu : isTo u) (hw : isWk w) (hv : isWk v) (hx : ∀ b, x = some b → isTo b) {K : Nat → Nat → Nat → Nat → Option Nat → Mm → Option Unit} {v4 : Int32} (hK : ∀ {t u w v : Nat} {x : Option Nat} {m : Mm}, isTo t → isTo u → isWk w → isWk v → (∀ b, x = some b → isTo b) → K t u w v x m = some () → J (bump X 1 6) G ρ 126 7 1393 [(0, .ref 4000), (1, .ref 0), (2, .ref 78), (3, .ref 125), (4, .int v4)] [] (RT t u w v x) m) {m : Mm} (h : f_law_c13 L xs t u w v x K v4 m = some ()) : J X G ρ 126 7 707 [(0, .ref 4000), (1, .ref 0), (2, .ref 78), (3, .ref 125), (4, .int v4)] [] (RT t u w v x) m := by
  unfold f_law_c13 at h
  refine J_aload_n hX dL_law_707 rfl 1 rfl ?_
  refine J_aload_n hX dL_law_708 rfl 0 rfl ?_
  refine J_iload hX dL_law_709 4 rfl ?_
  refine J_iconst hX (1 : Int32) dL_law_711 ic_1 ?_
  refine J_iadd hX dL_law_712 ?_
  refine J_sld hX hsc dL_law_713 h (fun h => ?_)
  obtain ⟨r2, m1, h0, h⟩ := bd2_some h
  refine J_callVi (As := [.int (xs (ix (v4 + (1 : Int32))))]) (st := []) hX dL_law_714 cw_RL_78 (by omega) (c_X10_home hn ht hu hw hv h0) (ltn ltc_0 hn) lo_0 (by decide) rfl rfl rfl (Nat.le_of_ble_eq_true rfl) ?_
  clear h0
  refine J_aload_n hX dL_law_717 rfl 2 rfl ?_
  refine J_aload_n hX dL_law_718 rfl 0 rfl ?_
  refine J_iload hX dL_law_719 4 rfl ?_
  refine J_iconst hX (1 : Int32) dL_law_721 ic_1 ?_
  refine J_iadd hX dL_law_722 ?_
  refine J_sld hX hsc dL_law_723 h (fun h => ?_)
  obtain ⟨r4, m3, h0, h⟩ := bd2_some h
  refine J_callVi (As := [.int (xs (ix (v4 + (1 : Int32))))]) (st := [.int r2]) hX dL_law_724 cw_RL_81 (by omega) (c_X11_home hn  h0) (ltn ltc_78 hn) lo_78 (by decide) rfl rfl rfl (Nat.le_of_ble_eq_true rfl) ?_
  clear h0
  refine J_icmp_eq hX 1393 dL_law_727 (by decide) h (fun c h => ?_) (fun c h => ?_)
  · exact J_widenY (X.2.2.1 + 1) (X.2.2.2.1 + 6) (by (try simp only [bump]); omega) (by (try simp only [bump]); omega) (hK ht hu hw hv hx h)
  · refine J_iconst hX (0 : Int32) dL_law_730 ic_0 ?_
    cases h
theorem t_law_c14 {X : XX} {G : GG} {ρ : Nat → Nat} {d L : Nat} {xs : Nat → Int32} {t u w v : Nat} {x : Option Nat} (hX : Ok X G ρ cL_law 7 RL d) (hsc : Scr X G ρ L xs) (hd0 : 400 ≤ d) (hn : 126 ≤ 126) (hr1 : X.2.2.1 + 1 ≤ X.1.2.2.2.1.cells) (hr2 : X.2.2.2.1 + 6 ≤ X.1.2.2.2.1.slots) (ht : isTo t) (hu : isTo u) (hw : isWk w) (hv : isWk v) (hx : ∀ b, x = some b → isTo b) {K : Nat → Nat → Nat → Nat → Option Nat → Mm → Option Unit} {v4 : Int32} (hK : ∀ {t u w v : Nat} {x : Option Nat} {m : Mm}, isTo t → isTo u → isWk w → isWk v → (∀ b, x = some b → isTo b) → K t u w v x m = some () → J (bump X 1 6) G ρ 126 7 1393 [(0, .ref 4000), (1, .ref 0), (2, .ref 78), (3, .ref 125), (4, .int v4)] [] (RT t u w v x) m) {m : Mm} (h : f_law_c14 L xs t u w v x K v4 m = some ()) : J X G ρ 126 7 732 [(0, .ref 4000), (1, .ref 0), (2, .ref 78), (3, .ref 125), (4, .int v4)] [] (RT t u w v x) m := by
  unfold f_law_c14 at h
  refine J_aload_n hX dL_law_732 rfl 1 rfl ?_
  refine J_aload_n hX dL_law_733 rfl 0 rfl ?_
  refine J_iload hX dL_law_734 4 rfl ?_
  refine J_iconst hX (1 : Int32) dL_law_736 ic_1 ?_
  refine J_iadd hX dL_law_737 ?_
  refine J_sld hX hsc dL_law_738 h (fun h => ?_)
  obtain ⟨r2, m1, h0, h⟩ := bd2_some h
  refine J_callVi (As := [.int (xs (ix (v4 + (1 : Int32))))]) (st := []) hX dL_law_739 cw_RL_82 (by omega) (c_X10_judged hn ht hu hw hv h0) (ltn ltc_0 hn) lo_0 (by decide) rfl rfl rfl (Nat.le_of_ble_eq_true rfl) ?_
  clear h0
  refine J_aload_n hX dL_law_742 rfl 2 rfl ?_
  refine J_aload_n hX dL_law_743 rfl 0 rfl ?_
  refine J_iload hX dL_law_744 4 rfl ?_
  refine J_iconst hX (1 : Int32) dL_law_746 ic_1 ?_
  refine J_iadd hX dL_law_747 ?_
  refine J_sld hX hsc dL_law_748 h (fun h => ?_)
  obtain ⟨r4, m3, h0, h⟩ := bd2_some h
  refine J_callVi (As := [.int (xs (ix (v4 + (1 : Int32))))]) (st := [.int r2]) hX dL_law_749 cw_RL_85 (by omega) (c_X11_judged hn  h0) (ltn ltc_78 hn) lo_78 (by decide) rfl rfl rfl (Nat.le_of_ble_eq_true rfl) ?_
  clear h0
  refine J_icmp_eq hX 1393 dL_law_752 (by decide) h (fun c h => ?_) (fun c h => ?_)
  · exact J_widenY (X.2.2.1 + 1) (X.2.2.2.1 + 6) (by (try simp only [bump]); omega) (by (try simp only [bump]); omega) (hK ht hu hw hv hx h)
  · refine J_iconst hX (0 : Int32) dL_law_755 ic_0 ?_
    cases h
theorem t_law_c15 {X : XX} {G : GG} {ρ : Nat → Nat} {d L : Nat} {xs : Nat → Int32} {t u w v : Nat} {x : Option Nat} (hX : Ok X G ρ cL_law 7 RL d) (hsc : Scr X G ρ L xs) (hd0 : 400 ≤ d) (hn : 126 ≤ 126) (hr1 : X.2.2.1 + 1 ≤ X.1.2.2.2.1.cells) (hr2 : X.2.2.2.1 + 6 ≤ X.1.2.2.2.1.slots) (ht : isTo t) (hu : isTo u) (hw : isWk w) (hv : isWk v) (hx : ∀ b, x = some b → isTo b) {K : Nat → Nat → Nat → Nat → Option Nat → Mm → Option Unit} {v4 : Int32} (hK : ∀ {t u w v : Nat} {x : Option Nat} {m : Mm}, isTo t → isTo u → isWk w → isWk v → (∀ b, x = some b → isTo b) → K t u w v x m = some () → J (bump X 1 6) G ρ 126 7 1393 [(0, .ref 4000), (1, .ref 0), (2, .ref 78), (3, .ref 125), (4, .int v4)] [] (RT t u w v x) m) {m : Mm} (h : f_law_c15 L xs t u w v x K v4 m = some ()) : J X G ρ 126 7 757 [(0, .ref 4000), (1, .ref 0), (2, .ref 78), (3, .ref 125), (4, .int v4)] [] (RT t u w v x) m := by
  unfold f_law_c15 at h
  refine J_aload_n hX dL_law_757 rfl 1 rfl ?_
  refine J_aload_n hX dL_law_758 rfl 0 rfl ?_
  refine J_iload hX dL_law_759 4 rfl ?_
  refine J_iconst hX (1 : Int32) dL_law_761 ic_1 ?_
  refine J_iadd hX dL_law_762 ?_
  refine J_sld hX hsc dL_law_763 h (fun h => ?_)
  refine J_aload_n hX dL_law_764 rfl 0 rfl ?_
  refine J_iload hX dL_law_765 4 rfl ?_
  refine J_iconst hX (2 : Int32) dL_law_767 ic_2 ?_
  refine J_iadd hX dL_law_768 ?_
  refine J_sld hX hsc dL_law_769 h (fun h => ?_)
  obtain ⟨r2, m1, h0, h⟩ := bd2_some h
  refine J_callVi (As := [.int (xs (ix (v4 + (1 : Int32)))), .int (xs (ix (v4 + (2 : Int32))))]) (st := []) hX dL_law_770 cw_RL_86 (by omega) (c_X10_pairs hn ht hu hw hv h0) (ltn ltc_0 hn) lo_0 (by decide) rfl rfl rfl (Nat.le_of_ble_eq_true rfl) ?_
  clear h0
  refine J_aload_n hX dL_law_773 rfl 2 rfl ?_
  refine J_aload_n hX dL_law_774 rfl 0 rfl ?_
  refine J_iload hX dL_law_775 4 rfl ?_
  refine J_iconst hX (1 : Int32) dL_law_777 ic_1 ?_
  refine J_iadd hX dL_law_778 ?_
  refine J_sld hX hsc dL_law_779 h (fun h => ?_)
  refine J_aload_n hX dL_law_780 rfl 0 rfl ?_
  refine J_iload hX dL_law_781 4 rfl ?_
  refine J_iconst hX (2 : Int32) dL_law_783 ic_2 ?_
  refine J_iadd hX dL_law_784 ?_
  refine J_sld hX hsc dL_law_785 h (fun h => ?_)
  obtain ⟨r4, m3, h0, h⟩ := bd2_some h
  refine J_callVi (As := [.int (xs (ix (v4 + (1 : Int32)))), .int (xs (ix (v4 + (2 : Int32))))]) (st := [.int r2]) hX dL_law_786 cw_RL_89 (by omega) (c_X11_pairs hn  h0) (ltn ltc_78 hn) lo_78 (by decide) rfl rfl rfl (Nat.le_of_ble_eq_true rfl) ?_
  clear h0
  refine J_icmp_eq hX 1393 dL_law_789 (by decide) h (fun c h => ?_) (fun c h => ?_)
  · exact J_widenY (X.2.2.1 + 1) (X.2.2.2.1 + 6) (by (try simp only [bump]); omega) (by (try simp only [bump]); omega) (hK ht hu hw hv hx h)
  · refine J_iconst hX (0 : Int32) dL_law_792 ic_0 ?_
    cases h
theorem t_law_c16 {X : XX} {G : GG} {ρ : Nat → Nat} {d L : Nat} {xs : Nat → Int32} {t u w v : Nat} {x : Option Nat} (hX : Ok X G ρ cL_law 7 RL d) (hsc : Scr X G ρ L xs) (hd0 : 400 ≤ d) (hn : 126 ≤ 126) (hr1 : X.2.2.1 + 1 ≤ X.1.2.2.2.1.cells) (hr2 : X.2.2.2.1 + 6 ≤ X.1.2.2.2.1.slots) (ht : isTo t) (hu : isTo u) (hw : isWk w) (hv : isWk v) (hx : ∀ b, x = some b → isTo b) {K : Nat → Nat → Nat → Nat → Option Nat → Mm → Option Unit} {v4 : Int32} (hK : ∀ {t u w v : Nat} {x : Option Nat} {m : Mm}, isTo t → isTo u → isWk w → isWk v → (∀ b, x = some b → isTo b) → K t u w v x m = some () → J (bump X 1 6) G ρ 126 7 1393 [(0, .ref 4000), (1, .ref 0), (2, .ref 78), (3, .ref 125), (4, .int v4)] [] (RT t u w v x) m) {m : Mm} (h : f_law_c16 L xs t u w v x K v4 m = some ()) : J X G ρ 126 7 794 [(0, .ref 4000), (1, .ref 0), (2, .ref 78), (3, .ref 125), (4, .int v4)] [] (RT t u w v x) m := by
  unfold f_law_c16 at h
  refine J_aload_n hX dL_law_794 rfl 1 rfl ?_
  obtain ⟨r2, m1, h0, h⟩ := bd2_some h
  refine J_callVi (As := []) (st := []) hX dL_law_795 cw_RL_90 (by omega) (c_X10_even hn ht hu hw hv h0) (ltn ltc_0 hn) lo_0 (by decide) rfl rfl rfl (Nat.le_of_ble_eq_true rfl) ?_
  clear h0
  refine J_aload_n hX dL_law_798 rfl 2 rfl ?_
  obtain ⟨r4, m3, h0, h⟩ := bd2_some h
  refine J_callVi (As := []) (st := [.int r2]) hX dL_law_799 cw_RL_93 (by omega) (c_X11_even hn  h0) (ltn ltc_78 hn) lo_78 (by decide) rfl rfl rfl (Nat.le_of_ble_eq_true rfl) ?_
  clear h0
  refine J_icmp_eq hX 1393 dL_law_802 (by decide) h (fun c h => ?_) (fun c h => ?_)
  · exact J_widenY (X.2.2.1 + 1) (X.2.2.2.1 + 6) (by (try simp only [bump]); omega) (by (try simp only [bump]); omega) (hK ht hu hw hv hx h)
  · refine J_iconst hX (0 : Int32) dL_law_805 ic_0 ?_
    cases h
theorem t_law_c17 {X : XX} {G : GG} {ρ : Nat → Nat} {d L : Nat} {xs : Nat → Int32} {t u w v : Nat} {x : Option Nat} (hX : Ok X G ρ cL_law 7 RL d) (hsc : Scr X G ρ L xs) (hd0 : 400 ≤ d) (hn : 126 ≤ 126) (hr1 : X.2.2.1 + 1 ≤ X.1.2.2.2.1.cells) (hr2 : X.2.2.2.1 + 6 ≤ X.1.2.2.2.1.slots) (ht : isTo t) (hu : isTo u) (hw : isWk w) (hv : isWk v) (hx : ∀ b, x = some b → isTo b) {K : Nat → Nat → Nat → Nat → Option Nat → Mm → Option Unit} {v4 : Int32} (hK : ∀ {t u w v : Nat} {x : Option Nat} {m : Mm}, isTo t → isTo u → isWk w → isWk v → (∀ b, x = some b → isTo b) → K t u w v x m = some () → J (bump X 1 6) G ρ 126 7 1393 [(0, .ref 4000), (1, .ref 0), (2, .ref 78), (3, .ref 125), (4, .int v4)] [] (RT t u w v x) m) {m : Mm} (h : f_law_c17 L xs t u w v x K v4 m = some ()) : J X G ρ 126 7 807 [(0, .ref 4000), (1, .ref 0), (2, .ref 78), (3, .ref 125), (4, .int v4)] [] (RT t u w v x) m := by
  unfold f_law_c17 at h
  refine J_aload_n hX dL_law_807 rfl 1 rfl ?_
  refine J_aload_n hX dL_law_808 rfl 0 rfl ?_
  refine J_iload hX dL_law_809 4 rfl ?_
  refine J_iconst hX (1 : Int32) dL_law_811 ic_1 ?_
  refine J_iadd hX dL_law_812 ?_
  refine J_sld hX hsc dL_law_813 h (fun h => ?_)
  obtain ⟨r2, m1, h0, h⟩ := bd2_some h
  refine J_callVi (As := [.int (xs (ix (v4 + (1 : Int32))))]) (st := []) hX dL_law_814 cw_RL_94 (by omega) (c_X10_worst hn ht hu hw hv h0) (ltn ltc_0 hn) lo_0 (by decide) rfl rfl rfl (Nat.le_of_ble_eq_true rfl) ?_
  clear h0
  refine J_aload_n hX dL_law_817 rfl 2 rfl ?_
  refine J_aload_n hX dL_law_818 rfl 0 rfl ?_
  refine J_iload hX dL_law_819 4 rfl ?_
  refine J_iconst hX (1 : Int32) dL_law_821 ic_1 ?_
  refine J_iadd hX dL_law_822 ?_
  refine J_sld hX hsc dL_law_823 h (fun h => ?_)
  obtain ⟨r4, m3, h0, h⟩ := bd2_some h
  refine J_callVi (As := [.int (xs (ix (v4 + (1 : Int32))))]) (st := [.int r2]) hX dL_law_824 cw_RL_97 (by omega) (c_X11_worst hn  h0) (ltn ltc_78 hn) lo_78 (by decide) rfl rfl rfl (Nat.le_of_ble_eq_true rfl) ?_
  clear h0
  refine J_icmp_eq hX 1393 dL_law_827 (by decide) h (fun c h => ?_) (fun c h => ?_)
  · exact J_widenY (X.2.2.1 + 1) (X.2.2.2.1 + 6) (by (try simp only [bump]); omega) (by (try simp only [bump]); omega) (hK ht hu hw hv hx h)
  · refine J_iconst hX (0 : Int32) dL_law_830 ic_0 ?_
    cases h
theorem t_law_c18 {X : XX} {G : GG} {ρ : Nat → Nat} {d L : Nat} {xs : Nat → Int32} {t u w v : Nat} {x : Option Nat} (hX : Ok X G ρ cL_law 7 RL d) (hsc : Scr X G ρ L xs) (hd0 : 400 ≤ d) (hn : 126 ≤ 126) (hr1 : X.2.2.1 + 1 ≤ X.1.2.2.2.1.cells) (hr2 : X.2.2.2.1 + 6 ≤ X.1.2.2.2.1.slots) (ht : isTo t) (hu : isTo u) (hw : isWk w) (hv : isWk v) (hx : ∀ b, x = some b → isTo b) {K : Nat → Nat → Nat → Nat → Option Nat → Mm → Option Unit} {v4 : Int32} (hK : ∀ {t u w v : Nat} {x : Option Nat} {m : Mm}, isTo t → isTo u → isWk w → isWk v → (∀ b, x = some b → isTo b) → K t u w v x m = some () → J (bump X 1 6) G ρ 126 7 1393 [(0, .ref 4000), (1, .ref 0), (2, .ref 78), (3, .ref 125), (4, .int v4)] [] (RT t u w v x) m) {m : Mm} (h : f_law_c18 L xs t u w v x K v4 m = some ()) : J X G ρ 126 7 832 [(0, .ref 4000), (1, .ref 0), (2, .ref 78), (3, .ref 125), (4, .int v4)] [] (RT t u w v x) m := by
  unfold f_law_c18 at h
  refine J_aload_n hX dL_law_832 rfl 1 rfl ?_
  refine J_aload_n hX dL_law_833 rfl 0 rfl ?_
  refine J_iload hX dL_law_834 4 rfl ?_
  refine J_iconst hX (1 : Int32) dL_law_836 ic_1 ?_
  refine J_iadd hX dL_law_837 ?_
  refine J_sld hX hsc dL_law_838 h (fun h => ?_)
  obtain ⟨r2, m1, h0, h⟩ := bd2_some h
  refine J_callVi (As := [.int (xs (ix (v4 + (1 : Int32))))]) (st := []) hX dL_law_839 cw_RL_98 (by omega) (c_X10_spread hn ht hu hw hv h0) (ltn ltc_0 hn) lo_0 (by decide) rfl rfl rfl (Nat.le_of_ble_eq_true rfl) ?_
  clear h0
  refine J_aload_n hX dL_law_842 rfl 2 rfl ?_
  refine J_aload_n hX dL_law_843 rfl 0 rfl ?_
  refine J_iload hX dL_law_844 4 rfl ?_
  refine J_iconst hX (1 : Int32) dL_law_846 ic_1 ?_
  refine J_iadd hX dL_law_847 ?_
  refine J_sld hX hsc dL_law_848 h (fun h => ?_)
  obtain ⟨r4, m3, h0, h⟩ := bd2_some h
  refine J_callVi (As := [.int (xs (ix (v4 + (1 : Int32))))]) (st := [.int r2]) hX dL_law_849 cw_RL_101 (by omega) (c_X11_spread hn  h0) (ltn ltc_78 hn) lo_78 (by decide) rfl rfl rfl (Nat.le_of_ble_eq_true rfl) ?_
  clear h0
  refine J_icmp_eq hX 1393 dL_law_852 (by decide) h (fun c h => ?_) (fun c h => ?_)
  · exact J_widenY (X.2.2.1 + 1) (X.2.2.2.1 + 6) (by (try simp only [bump]); omega) (by (try simp only [bump]); omega) (hK ht hu hw hv hx h)
  · refine J_iconst hX (0 : Int32) dL_law_855 ic_0 ?_
    cases h
theorem t_law_c19 {X : XX} {G : GG} {ρ : Nat → Nat} {d L : Nat} {xs : Nat → Int32} {t u w v : Nat} {x : Option Nat} (hX : Ok X G ρ cL_law 7 RL d) (hsc : Scr X G ρ L xs) (hd0 : 400 ≤ d) (hn : 126 ≤ 126) (hr1 : X.2.2.1 + 1 ≤ X.1.2.2.2.1.cells) (hr2 : X.2.2.2.1 + 6 ≤ X.1.2.2.2.1.slots) (ht : isTo t) (hu : isTo u) (hw : isWk w) (hv : isWk v) (hx : ∀ b, x = some b → isTo b) {K : Nat → Nat → Nat → Nat → Option Nat → Mm → Option Unit} {v4 : Int32} (hK : ∀ {t u w v : Nat} {x : Option Nat} {m : Mm}, isTo t → isTo u → isWk w → isWk v → (∀ b, x = some b → isTo b) → K t u w v x m = some () → J (bump X 1 6) G ρ 126 7 1393 [(0, .ref 4000), (1, .ref 0), (2, .ref 78), (3, .ref 125), (4, .int v4)] [] (RT t u w v x) m) {m : Mm} (h : f_law_c19 L xs t u w v x K v4 m = some ()) : J X G ρ 126 7 857 [(0, .ref 4000), (1, .ref 0), (2, .ref 78), (3, .ref 125), (4, .int v4)] [] (RT t u w v x) m := by
  unfold f_law_c19 at h
  refine J_aload_n hX dL_law_857 rfl 1 rfl ?_
  refine J_aload_n hX dL_law_858 rfl 0 rfl ?_
  refine J_iload hX dL_law_859 4 rfl ?_
  refine J_iconst hX (1 : Int32) dL_law_861 ic_1 ?_
  refine J_iadd hX dL_law_862 ?_
  refine J_sld hX hsc dL_law_863 h (fun h => ?_)
  refine J_aload_n hX dL_law_864 rfl 0 rfl ?_
  refine J_iload hX dL_law_865 4 rfl ?_
  refine J_iconst hX (2 : Int32) dL_law_867 ic_2 ?_
  refine J_iadd hX dL_law_868 ?_
  refine J_sld hX hsc dL_law_869 h (fun h => ?_)
  obtain ⟨r2, m1, h0, h⟩ := bd2_some h
  refine J_callVi (As := [.int (xs (ix (v4 + (1 : Int32)))), .int (xs (ix (v4 + (2 : Int32))))]) (st := []) hX dL_law_870 cw_RL_102 (by omega) (c_X10_differs hn ht hu hw hv h0) (ltn ltc_0 hn) lo_0 (by decide) rfl rfl rfl (Nat.le_of_ble_eq_true rfl) ?_
  clear h0
  refine J_aload_n hX dL_law_873 rfl 2 rfl ?_
  refine J_aload_n hX dL_law_874 rfl 0 rfl ?_
  refine J_iload hX dL_law_875 4 rfl ?_
  refine J_iconst hX (1 : Int32) dL_law_877 ic_1 ?_
  refine J_iadd hX dL_law_878 ?_
  refine J_sld hX hsc dL_law_879 h (fun h => ?_)
  refine J_aload_n hX dL_law_880 rfl 0 rfl ?_
  refine J_iload hX dL_law_881 4 rfl ?_
  refine J_iconst hX (2 : Int32) dL_law_883 ic_2 ?_
  refine J_iadd hX dL_law_884 ?_
  refine J_sld hX hsc dL_law_885 h (fun h => ?_)
  obtain ⟨r4, m3, h0, h⟩ := bd2_some h
  refine J_callVi (As := [.int (xs (ix (v4 + (1 : Int32)))), .int (xs (ix (v4 + (2 : Int32))))]) (st := [.int r2]) hX dL_law_886 cw_RL_105 (by omega) (c_X11_differs hn  h0) (ltn ltc_78 hn) lo_78 (by decide) rfl rfl rfl (Nat.le_of_ble_eq_true rfl) ?_
  clear h0
  refine J_icmp_eq hX 1393 dL_law_889 (by decide) h (fun c h => ?_) (fun c h => ?_)
  · exact J_widenY (X.2.2.1 + 1) (X.2.2.2.1 + 6) (by (try simp only [bump]); omega) (by (try simp only [bump]); omega) (hK ht hu hw hv hx h)
  · refine J_iconst hX (0 : Int32) dL_law_892 ic_0 ?_
    cases h
theorem t_law_c20 {X : XX} {G : GG} {ρ : Nat → Nat} {d L : Nat} {xs : Nat → Int32} {t u w v : Nat} {x : Option Nat} (hX : Ok X G ρ cL_law 7 RL d) (hsc : Scr X G ρ L xs) (hd0 : 400 ≤ d) (hn : 126 ≤ 126) (hr1 : X.2.2.1 + 1 ≤ X.1.2.2.2.1.cells) (hr2 : X.2.2.2.1 + 6 ≤ X.1.2.2.2.1.slots) (ht : isTo t) (hu : isTo u) (hw : isWk w) (hv : isWk v) (hx : ∀ b, x = some b → isTo b) {K : Nat → Nat → Nat → Nat → Option Nat → Mm → Option Unit} {v4 : Int32} (hK : ∀ {t u w v : Nat} {x : Option Nat} {m : Mm}, isTo t → isTo u → isWk w → isWk v → (∀ b, x = some b → isTo b) → K t u w v x m = some () → J (bump X 1 6) G ρ 126 7 1393 [(0, .ref 4000), (1, .ref 0), (2, .ref 78), (3, .ref 125), (4, .int v4)] [] (RT t u w v x) m) {m : Mm} (h : f_law_c20 L xs t u w v x K v4 m = some ()) : J X G ρ 126 7 894 [(0, .ref 4000), (1, .ref 0), (2, .ref 78), (3, .ref 125), (4, .int v4)] [] (RT t u w v x) m := by
  unfold f_law_c20 at h
  refine J_aload_n hX dL_law_894 rfl 1 rfl ?_
  obtain ⟨r2, m1, h0, h⟩ := bd2_some h
  refine J_callVi (As := []) (st := []) hX dL_law_895 cw_RL_106 (by omega) (c_X10_family hn ht hu hw hv h0) (ltn ltc_0 hn) lo_0 (by decide) rfl rfl rfl (Nat.le_of_ble_eq_true rfl) ?_
  clear h0
  refine J_aload_n hX dL_law_898 rfl 2 rfl ?_
  obtain ⟨r4, m3, h0, h⟩ := bd2_some h
  refine J_callVi (As := []) (st := [.int r2]) hX dL_law_899 cw_RL_109 (by omega) (c_X11_family hn  h0) (ltn ltc_78 hn) lo_78 (by decide) rfl rfl rfl (Nat.le_of_ble_eq_true rfl) ?_
  clear h0
  refine J_icmp_eq hX 1393 dL_law_902 (by decide) h (fun c h => ?_) (fun c h => ?_)
  · exact J_widenY (X.2.2.1 + 1) (X.2.2.2.1 + 6) (by (try simp only [bump]); omega) (by (try simp only [bump]); omega) (hK ht hu hw hv hx h)
  · refine J_iconst hX (0 : Int32) dL_law_905 ic_0 ?_
    cases h
theorem t_law_c21 {X : XX} {G : GG} {ρ : Nat → Nat} {d L : Nat} {xs : Nat → Int32} {t u w v : Nat} {x : Option Nat} (hX : Ok X G ρ cL_law 7 RL d) (hsc : Scr X G ρ L xs) (hd0 : 400 ≤ d) (hn : 126 ≤ 126) (hr1 : X.2.2.1 + 1 ≤ X.1.2.2.2.1.cells) (hr2 : X.2.2.2.1 + 6 ≤ X.1.2.2.2.1.slots) (ht : isTo t) (hu : isTo u) (hw : isWk w) (hv : isWk v) (hx : ∀ b, x = some b → isTo b) {K : Nat → Nat → Nat → Nat → Option Nat → Mm → Option Unit} {v4 : Int32} (hK : ∀ {t u w v : Nat} {x : Option Nat} {m : Mm}, isTo t → isTo u → isWk w → isWk v → (∀ b, x = some b → isTo b) → K t u w v x m = some () → J (bump X 1 6) G ρ 126 7 1393 [(0, .ref 4000), (1, .ref 0), (2, .ref 78), (3, .ref 125), (4, .int v4)] [] (RT t u w v x) m) {m : Mm} (h : f_law_c21 L xs t u w v x K v4 m = some ()) : J X G ρ 126 7 907 [(0, .ref 4000), (1, .ref 0), (2, .ref 78), (3, .ref 125), (4, .int v4)] [] (RT t u w v x) m := by
  unfold f_law_c21 at h
  refine J_aload_n hX dL_law_907 rfl 1 rfl ?_
  refine J_aload_n hX dL_law_908 rfl 0 rfl ?_
  refine J_iload hX dL_law_909 4 rfl ?_
  refine J_iconst hX (1 : Int32) dL_law_911 ic_1 ?_
  refine J_iadd hX dL_law_912 ?_
  refine J_sld hX hsc dL_law_913 h (fun h => ?_)
  obtain ⟨r2, m1, h0, h⟩ := bd2_some h
  refine J_callVi (As := [.int (xs (ix (v4 + (1 : Int32))))]) (st := []) hX dL_law_914 cw_RL_110 (by omega) (c_X10_seek hn ht hu hw hv h0) (ltn ltc_0 hn) lo_0 (by decide) rfl rfl rfl (Nat.le_of_ble_eq_true rfl) ?_
  clear h0
  refine J_aload_n hX dL_law_917 rfl 2 rfl ?_
  refine J_aload_n hX dL_law_918 rfl 0 rfl ?_
  refine J_iload hX dL_law_919 4 rfl ?_
  refine J_iconst hX (1 : Int32) dL_law_921 ic_1 ?_
  refine J_iadd hX dL_law_922 ?_
  refine J_sld hX hsc dL_law_923 h (fun h => ?_)
  obtain ⟨r4, m3, h0, h⟩ := bd2_some h
  refine J_callVi (As := [.int (xs (ix (v4 + (1 : Int32))))]) (st := [.int r2]) hX dL_law_924 cw_RL_113 (by omega) (c_X11_seek hn  h0) (ltn ltc_78 hn) lo_78 (by decide) rfl rfl rfl (Nat.le_of_ble_eq_true rfl) ?_
  clear h0
  refine J_icmp_eq hX 1393 dL_law_927 (by decide) h (fun c h => ?_) (fun c h => ?_)
  · exact J_widenY (X.2.2.1 + 1) (X.2.2.2.1 + 6) (by (try simp only [bump]); omega) (by (try simp only [bump]); omega) (hK ht hu hw hv hx h)
  · refine J_iconst hX (0 : Int32) dL_law_930 ic_0 ?_
    cases h
theorem t_law_c22 {X : XX} {G : GG} {ρ : Nat → Nat} {d L : Nat} {xs : Nat → Int32} {t u w v : Nat} {x : Option Nat} (hX : Ok X G ρ cL_law 7 RL d) (hsc : Scr X G ρ L xs) (hd0 : 400 ≤ d) (hn : 126 ≤ 126) (hr1 : X.2.2.1 + 1 ≤ X.1.2.2.2.1.cells) (hr2 : X.2.2.2.1 + 6 ≤ X.1.2.2.2.1.slots) (ht : isTo t) (hu : isTo u) (hw : isWk w) (hv : isWk v) (hx : ∀ b, x = some b → isTo b) {K : Nat → Nat → Nat → Nat → Option Nat → Mm → Option Unit} {v4 : Int32} (hK : ∀ {t u w v : Nat} {x : Option Nat} {m : Mm}, isTo t → isTo u → isWk w → isWk v → (∀ b, x = some b → isTo b) → K t u w v x m = some () → J (bump X 1 6) G ρ 126 7 1393 [(0, .ref 4000), (1, .ref 0), (2, .ref 78), (3, .ref 125), (4, .int v4)] [] (RT t u w v x) m) {m : Mm} (h : f_law_c22 L xs t u w v x K v4 m = some ()) : J X G ρ 126 7 932 [(0, .ref 4000), (1, .ref 0), (2, .ref 78), (3, .ref 125), (4, .int v4)] [] (RT t u w v x) m := by
  unfold f_law_c22 at h
  refine J_aload_n hX dL_law_932 rfl 1 rfl ?_
  refine J_aload_n hX dL_law_933 rfl 0 rfl ?_
  refine J_iload hX dL_law_934 4 rfl ?_
  refine J_iconst hX (1 : Int32) dL_law_936 ic_1 ?_
  refine J_iadd hX dL_law_937 ?_
  refine J_sld hX hsc dL_law_938 h (fun h => ?_)
  obtain ⟨r2, m1, h0, h⟩ := bd2_some h
  refine J_callVi (As := [.int (xs (ix (v4 + (1 : Int32))))]) (st := []) hX dL_law_939 cw_RL_114 (by omega) (c_X10_cost hn ht hu hw hv h0) (ltn ltc_0 hn) lo_0 (by decide) rfl rfl rfl (Nat.le_of_ble_eq_true rfl) ?_
  clear h0
  refine J_aload_n hX dL_law_942 rfl 2 rfl ?_
  refine J_aload_n hX dL_law_943 rfl 0 rfl ?_
  refine J_iload hX dL_law_944 4 rfl ?_
  refine J_iconst hX (1 : Int32) dL_law_946 ic_1 ?_
  refine J_iadd hX dL_law_947 ?_
  refine J_sld hX hsc dL_law_948 h (fun h => ?_)
  obtain ⟨r4, m3, h0, h⟩ := bd2_some h
  refine J_callVi (As := [.int (xs (ix (v4 + (1 : Int32))))]) (st := [.int r2]) hX dL_law_949 cw_RL_117 (by omega) (c_X11_cost hn  h0) (ltn ltc_78 hn) lo_78 (by decide) rfl rfl rfl (Nat.le_of_ble_eq_true rfl) ?_
  clear h0
  refine J_icmp_eq hX 1393 dL_law_952 (by decide) h (fun c h => ?_) (fun c h => ?_)
  · exact J_widenY (X.2.2.1 + 1) (X.2.2.2.1 + 6) (by (try simp only [bump]); omega) (by (try simp only [bump]); omega) (hK ht hu hw hv hx h)
  · refine J_iconst hX (0 : Int32) dL_law_955 ic_0 ?_
    cases h
theorem t_law_c23 {X : XX} {G : GG} {ρ : Nat → Nat} {d L : Nat} {xs : Nat → Int32} {t u w v : Nat} {x : Option Nat} (hX : Ok X G ρ cL_law 7 RL d) (hsc : Scr X G ρ L xs) (hd0 : 400 ≤ d) (hn : 126 ≤ 126) (hr1 : X.2.2.1 + 1 ≤ X.1.2.2.2.1.cells) (hr2 : X.2.2.2.1 + 6 ≤ X.1.2.2.2.1.slots) (ht : isTo t) (hu : isTo u) (hw : isWk w) (hv : isWk v) (hx : ∀ b, x = some b → isTo b) {K : Nat → Nat → Nat → Nat → Option Nat → Mm → Option Unit} {v4 : Int32} (hK : ∀ {t u w v : Nat} {x : Option Nat} {m : Mm}, isTo t → isTo u → isWk w → isWk v → (∀ b, x = some b → isTo b) → K t u w v x m = some () → J (bump X 1 6) G ρ 126 7 1393 [(0, .ref 4000), (1, .ref 0), (2, .ref 78), (3, .ref 125), (4, .int v4)] [] (RT t u w v x) m) {m : Mm} (h : f_law_c23 L xs t u w v x K v4 m = some ()) : J X G ρ 126 7 957 [(0, .ref 4000), (1, .ref 0), (2, .ref 78), (3, .ref 125), (4, .int v4)] [] (RT t u w v x) m := by
  unfold f_law_c23 at h
  refine J_aload_n hX dL_law_957 rfl 1 rfl ?_
  refine J_aload_n hX dL_law_958 rfl 0 rfl ?_
  refine J_iload hX dL_law_959 4 rfl ?_
  refine J_iconst hX (1 : Int32) dL_law_961 ic_1 ?_
  refine J_iadd hX dL_law_962 ?_
  refine J_sld hX hsc dL_law_963 h (fun h => ?_)
  obtain ⟨r2, m1, h0, h⟩ := bd2_some h
  refine J_callVi (As := [.int (xs (ix (v4 + (1 : Int32))))]) (st := []) hX dL_law_964 cw_RL_118 (by omega) (c_X10_price hn ht hu hw hv h0) (ltn ltc_0 hn) lo_0 (by decide) rfl rfl rfl (Nat.le_of_ble_eq_true rfl) ?_
  clear h0
  refine J_aload_n hX dL_law_967 rfl 2 rfl ?_
  refine J_aload_n hX dL_law_968 rfl 0 rfl ?_
  refine J_iload hX dL_law_969 4 rfl ?_
  refine J_iconst hX (1 : Int32) dL_law_971 ic_1 ?_
  refine J_iadd hX dL_law_972 ?_
  refine J_sld hX hsc dL_law_973 h (fun h => ?_)
  obtain ⟨r4, m3, h0, h⟩ := bd2_some h
  refine J_callVi (As := [.int (xs (ix (v4 + (1 : Int32))))]) (st := [.int r2]) hX dL_law_974 cw_RL_121 (by omega) (c_X11_price hn  h0) (ltn ltc_78 hn) lo_78 (by decide) rfl rfl rfl (Nat.le_of_ble_eq_true rfl) ?_
  clear h0
  refine J_icmp_eq hX 1393 dL_law_977 (by decide) h (fun c h => ?_) (fun c h => ?_)
  · exact J_widenY (X.2.2.1 + 1) (X.2.2.2.1 + 6) (by (try simp only [bump]); omega) (by (try simp only [bump]); omega) (hK ht hu hw hv hx h)
  · refine J_iconst hX (0 : Int32) dL_law_980 ic_0 ?_
    cases h
theorem t_law_c24 {X : XX} {G : GG} {ρ : Nat → Nat} {d L : Nat} {xs : Nat → Int32} {t u w v : Nat} {x : Option Nat} (hX : Ok X G ρ cL_law 7 RL d) (hsc : Scr X G ρ L xs) (hd0 : 400 ≤ d) (hn : 126 ≤ 126) (hr1 : X.2.2.1 + 1 ≤ X.1.2.2.2.1.cells) (hr2 : X.2.2.2.1 + 6 ≤ X.1.2.2.2.1.slots) (ht : isTo t) (hu : isTo u) (hw : isWk w) (hv : isWk v) (hx : ∀ b, x = some b → isTo b) {K : Nat → Nat → Nat → Nat → Option Nat → Mm → Option Unit} {v4 : Int32} (hK : ∀ {t u w v : Nat} {x : Option Nat} {m : Mm}, isTo t → isTo u → isWk w → isWk v → (∀ b, x = some b → isTo b) → K t u w v x m = some () → J (bump X 1 6) G ρ 126 7 1393 [(0, .ref 4000), (1, .ref 0), (2, .ref 78), (3, .ref 125), (4, .int v4)] [] (RT t u w v x) m) {m : Mm} (h : f_law_c24 L xs t u w v x K v4 m = some ()) : J X G ρ 126 7 982 [(0, .ref 4000), (1, .ref 0), (2, .ref 78), (3, .ref 125), (4, .int v4)] [] (RT t u w v x) m := by
  unfold f_law_c24 at h
  refine J_aload_n hX dL_law_982 rfl 1 rfl ?_
  refine J_aload_n hX dL_law_983 rfl 0 rfl ?_
  refine J_iload hX dL_law_984 4 rfl ?_
  refine J_iconst hX (1 : Int32) dL_law_986 ic_1 ?_
  refine J_iadd hX dL_law_987 ?_
  refine J_sld hX hsc dL_law_988 h (fun h => ?_)
  refine J_aload_n hX dL_law_989 rfl 0 rfl ?_
  refine J_iload hX dL_law_990 4 rfl ?_
  refine J_iconst hX (2 : Int32) dL_law_992 ic_2 ?_
  refine J_iadd hX dL_law_993 ?_
  refine J_sld hX hsc dL_law_994 h (fun h => ?_)
  obtain ⟨r2, m1, h0, h⟩ := bd2_some h
  refine J_callVi (As := [.int (xs (ix (v4 + (1 : Int32)))), .int (xs (ix (v4 + (2 : Int32))))]) (st := []) hX dL_law_995 cw_RL_122 (by omega) (c_X10_would hn ht hu hw hv h0) (ltn ltc_0 hn) lo_0 (by decide) rfl rfl rfl (Nat.le_of_ble_eq_true rfl) ?_
  clear h0
  refine J_aload_n hX dL_law_998 rfl 2 rfl ?_
  refine J_aload_n hX dL_law_999 rfl 0 rfl ?_
  refine J_iload hX dL_law_1000 4 rfl ?_
  refine J_iconst hX (1 : Int32) dL_law_1002 ic_1 ?_
  refine J_iadd hX dL_law_1003 ?_
  refine J_sld hX hsc dL_law_1004 h (fun h => ?_)
  refine J_aload_n hX dL_law_1005 rfl 0 rfl ?_
  refine J_iload hX dL_law_1006 4 rfl ?_
  refine J_iconst hX (2 : Int32) dL_law_1008 ic_2 ?_
  refine J_iadd hX dL_law_1009 ?_
  refine J_sld hX hsc dL_law_1010 h (fun h => ?_)
  obtain ⟨r4, m3, h0, h⟩ := bd2_some h
  refine J_callVi (As := [.int (xs (ix (v4 + (1 : Int32)))), .int (xs (ix (v4 + (2 : Int32))))]) (st := [.int r2]) hX dL_law_1011 cw_RL_125 (by omega) (c_X11_would hn  h0) (ltn ltc_78 hn) lo_78 (by decide) rfl rfl rfl (Nat.le_of_ble_eq_true rfl) ?_
  clear h0
  refine J_icmp_eq hX 1393 dL_law_1014 (by decide) h (fun c h => ?_) (fun c h => ?_)
  · exact J_widenY (X.2.2.1 + 1) (X.2.2.2.1 + 6) (by (try simp only [bump]); omega) (by (try simp only [bump]); omega) (hK ht hu hw hv hx h)
  · refine J_iconst hX (0 : Int32) dL_law_1017 ic_0 ?_
    cases h
theorem t_law_c25 {X : XX} {G : GG} {ρ : Nat → Nat} {d L : Nat} {xs : Nat → Int32} {t u w v : Nat} {x : Option Nat} (hX : Ok X G ρ cL_law 7 RL d) (hsc : Scr X G ρ L xs) (hd0 : 400 ≤ d) (hn : 126 ≤ 126) (hr1 : X.2.2.1 + 1 ≤ X.1.2.2.2.1.cells) (hr2 : X.2.2.2.1 + 6 ≤ X.1.2.2.2.1.slots) (ht : isTo t) (hu : isTo u) (hw : isWk w) (hv : isWk v) (hx : ∀ b, x = some b → isTo b) {K : Nat → Nat → Nat → Nat → Option Nat → Mm → Option Unit} {v4 : Int32} (hK : ∀ {t u w v : Nat} {x : Option Nat} {m : Mm}, isTo t → isTo u → isWk w → isWk v → (∀ b, x = some b → isTo b) → K t u w v x m = some () → J (bump X 1 6) G ρ 126 7 1393 [(0, .ref 4000), (1, .ref 0), (2, .ref 78), (3, .ref 125), (4, .int v4)] [] (RT t u w v x) m) {m : Mm} (h : f_law_c25 L xs t u w v x K v4 m = some ()) : J X G ρ 126 7 1019 [(0, .ref 4000), (1, .ref 0), (2, .ref 78), (3, .ref 125), (4, .int v4)] [] (RT t u w v x) m := by
  unfold f_law_c25 at h
  refine J_aload_n hX dL_law_1019 rfl 1 rfl ?_
  refine J_aload_n hX dL_law_1020 rfl 0 rfl ?_
  refine J_iload hX dL_law_1021 4 rfl ?_
  refine J_iconst hX (1 : Int32) dL_law_1023 ic_1 ?_
  refine J_iadd hX dL_law_1024 ?_
  refine J_sld hX hsc dL_law_1025 h (fun h => ?_)
  refine J_aload_n hX dL_law_1026 rfl 0 rfl ?_
  refine J_iload hX dL_law_1027 4 rfl ?_
  refine J_iconst hX (2 : Int32) dL_law_1029 ic_2 ?_
  refine J_iadd hX dL_law_1030 ?_
  refine J_sld hX hsc dL_law_1031 h (fun h => ?_)
  obtain ⟨r2, m1, h0, h⟩ := bd2_some h
  refine J_callVi (As := [.int (xs (ix (v4 + (1 : Int32)))), .int (xs (ix (v4 + (2 : Int32))))]) (st := []) hX dL_law_1032 cw_RL_126 (by omega) (c_X10_time hn ht hu hw hv h0) (ltn ltc_0 hn) lo_0 (by decide) rfl rfl rfl (Nat.le_of_ble_eq_true rfl) ?_
  clear h0
  refine J_aload_n hX dL_law_1035 rfl 2 rfl ?_
  refine J_aload_n hX dL_law_1036 rfl 0 rfl ?_
  refine J_iload hX dL_law_1037 4 rfl ?_
  refine J_iconst hX (1 : Int32) dL_law_1039 ic_1 ?_
  refine J_iadd hX dL_law_1040 ?_
  refine J_sld hX hsc dL_law_1041 h (fun h => ?_)
  refine J_aload_n hX dL_law_1042 rfl 0 rfl ?_
  refine J_iload hX dL_law_1043 4 rfl ?_
  refine J_iconst hX (2 : Int32) dL_law_1045 ic_2 ?_
  refine J_iadd hX dL_law_1046 ?_
  refine J_sld hX hsc dL_law_1047 h (fun h => ?_)
  obtain ⟨r4, m3, h0, h⟩ := bd2_some h
  refine J_callVi (As := [.int (xs (ix (v4 + (1 : Int32)))), .int (xs (ix (v4 + (2 : Int32))))]) (st := [.int r2]) hX dL_law_1048 cw_RL_129 (by omega) (c_X11_time hn  h0) (ltn ltc_78 hn) lo_78 (by decide) rfl rfl rfl (Nat.le_of_ble_eq_true rfl) ?_
  clear h0
  refine J_icmp_eq hX 1393 dL_law_1051 (by decide) h (fun c h => ?_) (fun c h => ?_)
  · exact J_widenY (X.2.2.1 + 1) (X.2.2.2.1 + 6) (by (try simp only [bump]); omega) (by (try simp only [bump]); omega) (hK ht hu hw hv hx h)
  · refine J_iconst hX (0 : Int32) dL_law_1054 ic_0 ?_
    cases h
theorem t_law_c26 {X : XX} {G : GG} {ρ : Nat → Nat} {d L : Nat} {xs : Nat → Int32} {t u w v : Nat} {x : Option Nat} (hX : Ok X G ρ cL_law 7 RL d) (hsc : Scr X G ρ L xs) (hd0 : 400 ≤ d) (hn : 126 ≤ 126) (hr1 : X.2.2.1 + 1 ≤ X.1.2.2.2.1.cells) (hr2 : X.2.2.2.1 + 6 ≤ X.1.2.2.2.1.slots) (ht : isTo t) (hu : isTo u) (hw : isWk w) (hv : isWk v) (hx : ∀ b, x = some b → isTo b) {K : Nat → Nat → Nat → Nat → Option Nat → Mm → Option Unit} {v4 : Int32} (hK : ∀ {t u w v : Nat} {x : Option Nat} {m : Mm}, isTo t → isTo u → isWk w → isWk v → (∀ b, x = some b → isTo b) → K t u w v x m = some () → J (bump X 1 6) G ρ 126 7 1393 [(0, .ref 4000), (1, .ref 0), (2, .ref 78), (3, .ref 125), (4, .int v4)] [] (RT t u w v x) m) {m : Mm} (h : f_law_c26 L xs t u w v x K v4 m = some ()) : J X G ρ 126 7 1056 [(0, .ref 4000), (1, .ref 0), (2, .ref 78), (3, .ref 125), (4, .int v4)] [] (RT t u w v x) m := by
  unfold f_law_c26 at h
  refine J_aload_n hX dL_law_1056 rfl 1 rfl ?_
  refine J_aload_n hX dL_law_1057 rfl 0 rfl ?_
  refine J_iload hX dL_law_1058 4 rfl ?_
  refine J_iconst hX (1 : Int32) dL_law_1060 ic_1 ?_
  refine J_iadd hX dL_law_1061 ?_
  refine J_sld hX hsc dL_law_1062 h (fun h => ?_)
  obtain ⟨r2, m1, h0, h⟩ := bd2_some h
  refine J_callVi (As := [.int (xs (ix (v4 + (1 : Int32))))]) (st := []) hX dL_law_1063 cw_RL_130 (by omega) (c_X10_bears hn ht hu hw hv h0) (ltn ltc_0 hn) lo_0 (by decide) rfl rfl rfl (Nat.le_of_ble_eq_true rfl) ?_
  clear h0
  refine J_aload_n hX dL_law_1066 rfl 2 rfl ?_
  refine J_aload_n hX dL_law_1067 rfl 0 rfl ?_
  refine J_iload hX dL_law_1068 4 rfl ?_
  refine J_iconst hX (1 : Int32) dL_law_1070 ic_1 ?_
  refine J_iadd hX dL_law_1071 ?_
  refine J_sld hX hsc dL_law_1072 h (fun h => ?_)
  obtain ⟨r4, m3, h0, h⟩ := bd2_some h
  refine J_callVi (As := [.int (xs (ix (v4 + (1 : Int32))))]) (st := [.int r2]) hX dL_law_1073 cw_RL_133 (by omega) (c_X11_bears hn  h0) (ltn ltc_78 hn) lo_78 (by decide) rfl rfl rfl (Nat.le_of_ble_eq_true rfl) ?_
  clear h0
  refine J_icmp_eq hX 1393 dL_law_1076 (by decide) h (fun c h => ?_) (fun c h => ?_)
  · exact J_widenY (X.2.2.1 + 1) (X.2.2.2.1 + 6) (by (try simp only [bump]); omega) (by (try simp only [bump]); omega) (hK ht hu hw hv hx h)
  · refine J_iconst hX (0 : Int32) dL_law_1079 ic_0 ?_
    cases h
theorem t_law_c27 {X : XX} {G : GG} {ρ : Nat → Nat} {d L : Nat} {xs : Nat → Int32} {t u w v : Nat} {x : Option Nat} (hX : Ok X G ρ cL_law 7 RL d) (hsc : Scr X G ρ L xs) (hd0 : 400 ≤ d) (hn : 126 ≤ 126) (hr1 : X.2.2.1 + 1 ≤ X.1.2.2.2.1.cells) (hr2 : X.2.2.2.1 + 6 ≤ X.1.2.2.2.1.slots) (ht : isTo t) (hu : isTo u) (hw : isWk w) (hv : isWk v) (hx : ∀ b, x = some b → isTo b) {K : Nat → Nat → Nat → Nat → Option Nat → Mm → Option Unit} {v4 : Int32} (hK : ∀ {t u w v : Nat} {x : Option Nat} {m : Mm}, isTo t → isTo u → isWk w → isWk v → (∀ b, x = some b → isTo b) → K t u w v x m = some () → J (bump X 1 6) G ρ 126 7 1393 [(0, .ref 4000), (1, .ref 0), (2, .ref 78), (3, .ref 125), (4, .int v4)] [] (RT t u w v x) m) {m : Mm} (h : f_law_c27 L xs t u w v x K v4 m = some ()) : J X G ρ 126 7 1081 [(0, .ref 4000), (1, .ref 0), (2, .ref 78), (3, .ref 125), (4, .int v4)] [] (RT t u w v x) m := by
  unfold f_law_c27 at h
  refine J_aload_n hX dL_law_1081 rfl 1 rfl ?_
  obtain ⟨r2, m1, h0, h⟩ := bd2_some h
  refine J_callVi (As := []) (st := []) hX dL_law_1082 cw_RL_134 (by omega) (c_X10_risk hn ht hu hw hv h0) (ltn ltc_0 hn) lo_0 (by decide) rfl rfl rfl (Nat.le_of_ble_eq_true rfl) ?_
  clear h0
  refine J_aload_n hX dL_law_1085 rfl 2 rfl ?_
  obtain ⟨r4, m3, h0, h⟩ := bd2_some h
  refine J_callVi (As := []) (st := [.int r2]) hX dL_law_1086 cw_RL_137 (by omega) (c_X11_risk hn  h0) (ltn ltc_78 hn) lo_78 (by decide) rfl rfl rfl (Nat.le_of_ble_eq_true rfl) ?_
  clear h0
  refine J_icmp_eq hX 1393 dL_law_1089 (by decide) h (fun c h => ?_) (fun c h => ?_)
  · exact J_widenY (X.2.2.1 + 1) (X.2.2.2.1 + 6) (by (try simp only [bump]); omega) (by (try simp only [bump]); omega) (hK ht hu hw hv hx h)
  · refine J_iconst hX (0 : Int32) dL_law_1092 ic_0 ?_
    cases h
theorem t_law_c28 {X : XX} {G : GG} {ρ : Nat → Nat} {d L : Nat} {xs : Nat → Int32} {t u w v : Nat} {x : Option Nat} (hX : Ok X G ρ cL_law 7 RL d) (hsc : Scr X G ρ L xs) (hd0 : 400 ≤ d) (hn : 126 ≤ 126) (hr1 : X.2.2.1 + 1 ≤ X.1.2.2.2.1.cells) (hr2 : X.2.2.2.1 + 6 ≤ X.1.2.2.2.1.slots) (ht : isTo t) (hu : isTo u) (hw : isWk w) (hv : isWk v) (hx : ∀ b, x = some b → isTo b) {K : Nat → Nat → Nat → Nat → Option Nat → Mm → Option Unit} {v4 : Int32} (hK : ∀ {t u w v : Nat} {x : Option Nat} {m : Mm}, isTo t → isTo u → isWk w → isWk v → (∀ b, x = some b → isTo b) → K t u w v x m = some () → J (bump X 1 6) G ρ 126 7 1393 [(0, .ref 4000), (1, .ref 0), (2, .ref 78), (3, .ref 125), (4, .int v4)] [] (RT t u w v x) m) {m : Mm} (h : f_law_c28 L xs t u w v x K v4 m = some ()) : J X G ρ 126 7 1094 [(0, .ref 4000), (1, .ref 0), (2, .ref 78), (3, .ref 125), (4, .int v4)] [] (RT t u w v x) m := by
  unfold f_law_c28 at h
  refine J_aload_n hX dL_law_1094 rfl 1 rfl ?_
  refine J_aload_n hX dL_law_1095 rfl 0 rfl ?_
  refine J_iload hX dL_law_1096 4 rfl ?_
  refine J_iconst hX (1 : Int32) dL_law_1098 ic_1 ?_
  refine J_iadd hX dL_law_1099 ?_
  refine J_sld hX hsc dL_law_1100 h (fun h => ?_)
  refine J_aload_n hX dL_law_1101 rfl 0 rfl ?_
  refine J_iload hX dL_law_1102 4 rfl ?_
  refine J_iconst hX (2 : Int32) dL_law_1104 ic_2 ?_
  refine J_iadd hX dL_law_1105 ?_
  refine J_sld hX hsc dL_law_1106 h (fun h => ?_)
  obtain ⟨r2, m1, h0, h⟩ := bd2_some h
  refine J_callVi (As := [.int (xs (ix (v4 + (1 : Int32)))), .int (xs (ix (v4 + (2 : Int32))))]) (st := []) hX dL_law_1107 cw_RL_138 (by omega) (c_X10_grow hn ht hu hw hv h0) (ltn ltc_0 hn) lo_0 (by decide) rfl rfl rfl (Nat.le_of_ble_eq_true rfl) ?_
  clear h0
  refine J_aload_n hX dL_law_1110 rfl 2 rfl ?_
  refine J_aload_n hX dL_law_1111 rfl 0 rfl ?_
  refine J_iload hX dL_law_1112 4 rfl ?_
  refine J_iconst hX (1 : Int32) dL_law_1114 ic_1 ?_
  refine J_iadd hX dL_law_1115 ?_
  refine J_sld hX hsc dL_law_1116 h (fun h => ?_)
  refine J_aload_n hX dL_law_1117 rfl 0 rfl ?_
  refine J_iload hX dL_law_1118 4 rfl ?_
  refine J_iconst hX (2 : Int32) dL_law_1120 ic_2 ?_
  refine J_iadd hX dL_law_1121 ?_
  refine J_sld hX hsc dL_law_1122 h (fun h => ?_)
  obtain ⟨r4, m3, h0, h⟩ := bd2_some h
  refine J_callVi (As := [.int (xs (ix (v4 + (1 : Int32)))), .int (xs (ix (v4 + (2 : Int32))))]) (st := [.int r2]) hX dL_law_1123 cw_RL_141 (by omega) (c_X11_grow hn  h0) (ltn ltc_78 hn) lo_78 (by decide) rfl rfl rfl (Nat.le_of_ble_eq_true rfl) ?_
  clear h0
  refine J_icmp_eq hX 1393 dL_law_1126 (by decide) h (fun c h => ?_) (fun c h => ?_)
  · exact J_widenY (X.2.2.1 + 1) (X.2.2.2.1 + 6) (by (try simp only [bump]); omega) (by (try simp only [bump]); omega) (hK ht hu hw hv hx h)
  · refine J_iconst hX (0 : Int32) dL_law_1129 ic_0 ?_
    cases h
theorem t_law_c29 {X : XX} {G : GG} {ρ : Nat → Nat} {d L : Nat} {xs : Nat → Int32} {t u w v : Nat} {x : Option Nat} (hX : Ok X G ρ cL_law 7 RL d) (hsc : Scr X G ρ L xs) (hd0 : 400 ≤ d) (hn : 126 ≤ 126) (hr1 : X.2.2.1 + 1 ≤ X.1.2.2.2.1.cells) (hr2 : X.2.2.2.1 + 6 ≤ X.1.2.2.2.1.slots) (ht : isTo t) (hu : isTo u) (hw : isWk w) (hv : isWk v) (hx : ∀ b, x = some b → isTo b) {K : Nat → Nat → Nat → Nat → Option Nat → Mm → Option Unit} {v4 : Int32} (hL : LostR X G ρ) (hK : ∀ {t u w v : Nat} {x : Option Nat} {m : Mm}, isTo t → isTo u → isWk w → isWk v → (∀ b, x = some b → isTo b) → K t u w v x m = some () → J (bump X 1 6) G ρ 126 7 1393 [(0, .ref 4000), (1, .ref 0), (2, .ref 78), (3, .ref 125), (4, .int v4)] [] (RT t u w v x) m) {m : Mm} (h : f_law_c29 L xs t u w v x K v4 m = some ()) : J X G ρ 126 7 1131 [(0, .ref 4000), (1, .ref 0), (2, .ref 78), (3, .ref 125), (4, .int v4)] [] (RT t u w v x) m := by
  unfold f_law_c29 at h
  refine J_aload_n hX dL_law_1131 rfl 1 rfl ?_
  refine J_aload_n hX dL_law_1132 rfl 0 rfl ?_
  refine J_iload hX dL_law_1133 4 rfl ?_
  refine J_iconst hX (1 : Int32) dL_law_1135 ic_1 ?_
  refine J_iadd hX dL_law_1136 ?_
  refine J_sld hX hsc dL_law_1137 h (fun h => ?_)
  refine J_aload_n hX dL_law_1138 rfl 3 rfl ?_
  obtain ⟨r1, m2, h0, h⟩ := bd2_some h
  refine hL hr1 hr2 _ _ _ _ _ _ ht hu hw hv h0 ?_
  clear h0
  have hX := Ok_bump (k := 1) (s := 6) hX (fun _ _ => rfl) (by omega) (by omega)
  refine J_istore hX [(5, .int r1), (0, .ref 4000), (1, .ref 0), (2, .ref 78), (3, .ref 125), (4, .int v4)] dL_law_1142 (by decide) rfl ?_
  refine J_aload_n hX dL_law_1144 rfl 3 rfl ?_
  refine J_aload_n hX dL_law_1145 rfl 1 rfl ?_
  refine J_iload hX dL_law_1146 5 rfl ?_
  refine J_iconst hX (1 : Int32) dL_law_1148 ic_1 ?_
  refine J_iadd hX dL_law_1149 ?_
  refine J_sld hX hsc dL_law_1150 h (fun h => ?_)
  obtain ⟨r4, m3, h0, h⟩ := bd2_some h
  refine J_callVi (As := [.int (xs (ix (v4 + (1 : Int32))))]) (st := []) hX dL_law_1151 cw_RL_147 (by omega) (c_X11_lost hn  h0) (ltn ltc_78 hn) lo_78 (by decide) rfl rfl rfl (Nat.le_of_ble_eq_true rfl) ?_
  clear h0
  refine J_istore hX [(6, .int r4), (5, .int r1), (0, .ref 4000), (1, .ref 0), (2, .ref 78), (3, .ref 125), (4, .int v4)] dL_law_1154 (by decide) rfl ?_
  refine J_aload_n hX dL_law_1156 rfl 4 rfl ?_
  obtain ⟨r6, m5, h0, h⟩ := bd2_some h
  refine J_callVi (As := []) (st := []) hX dL_law_1157 cw_RL_148 (by omega) (c_X11_thrown hn  h0) (ltn ltc_78 hn) lo_78 (by decide) rfl rfl rfl (Nat.le_of_ble_eq_true rfl) ?_
  clear h0
  refine J_iload hX dL_law_1160 1 rfl ?_
  refine J_icmp_eq hX 1167 dL_law_1162 (by decide) h (fun c h => ?_) (fun c h => ?_)
  · refine J_iload hX dL_law_1167 1 rfl ?_
    refine J_if_ne hX 1184 dL_law_1169 (by decide) h (fun c h => ?_) (fun c h => ?_)
    · refine J_aload_n hX dL_law_1172 rfl 5 rfl ?_
      refine J_iconst hX (0 : Int32) dL_law_1173 ic_0 ?_
      refine J_laload0 hX dL_law_1174 (ltn ltc_125 hn) lay_125 (by decide) ?_
      refine J_iload hX dL_law_1175 0 rfl ?_
      refine J_i2l hX dL_law_1177 ?_
      refine J_lcmp hX dL_law_1178 ?_
      refine J_if_eq hX 1184 dL_law_1179 (by decide) h (fun c h => ?_) (fun c h => ?_)
      · refine J_goto hX 1393 dL_law_1184 (by decide) ?_
        refine J_sub [(0, .ref 4000), (1, .ref 0), (2, .ref 78), (3, .ref 125), (4, .int v4)] [2, 3, 4, 5, 6] rfl ?_
        exact J_widenY (X.2.2.1 + 1) (X.2.2.2.1 + 6) (by (try simp only [bump]); omega) (by (try simp only [bump]); omega) (hK ht hu hw hv hx h)
      · refine J_iconst hX (0 : Int32) dL_law_1182 ic_0 ?_
        cases h
    · refine J_goto hX 1393 dL_law_1184 (by decide) ?_
      refine J_sub [(0, .ref 4000), (1, .ref 0), (2, .ref 78), (3, .ref 125), (4, .int v4)] [2, 3, 4, 5, 6] rfl ?_
      exact J_widenY (X.2.2.1 + 1) (X.2.2.2.1 + 6) (by (try simp only [bump]); omega) (by (try simp only [bump]); omega) (hK ht hu hw hv hx h)
  · refine J_iconst hX (0 : Int32) dL_law_1165 ic_0 ?_
    cases h
theorem t_law_c30 {X : XX} {G : GG} {ρ : Nat → Nat} {d L : Nat} {xs : Nat → Int32} {t u w v : Nat} {x : Option Nat} (hX : Ok X G ρ cL_law 7 RL d) (hsc : Scr X G ρ L xs) (hd0 : 400 ≤ d) (hn : 126 ≤ 126) (hr1 : X.2.2.1 + 1 ≤ X.1.2.2.2.1.cells) (hr2 : X.2.2.2.1 + 6 ≤ X.1.2.2.2.1.slots) (ht : isTo t) (hu : isTo u) (hw : isWk w) (hv : isWk v) (hx : ∀ b, x = some b → isTo b) {K : Nat → Nat → Nat → Nat → Option Nat → Mm → Option Unit} {v4 : Int32} (hK : ∀ {t u w v : Nat} {x : Option Nat} {m : Mm}, isTo t → isTo u → isWk w → isWk v → (∀ b, x = some b → isTo b) → K t u w v x m = some () → J (bump X 1 6) G ρ 126 7 1393 [(0, .ref 4000), (1, .ref 0), (2, .ref 78), (3, .ref 125), (4, .int v4)] [] (RT t u w v x) m) {m : Mm} (h : f_law_c30 L xs t u w v x K v4 m = some ()) : J X G ρ 126 7 1187 [(0, .ref 4000), (1, .ref 0), (2, .ref 78), (3, .ref 125), (4, .int v4)] [] (RT t u w v x) m := by
  unfold f_law_c30 at h
  refine J_aload_n hX dL_law_1187 rfl 1 rfl ?_
  refine J_aload_n hX dL_law_1188 rfl 0 rfl ?_
  refine J_iload hX dL_law_1189 4 rfl ?_
  refine J_iconst hX (1 : Int32) dL_law_1191 ic_1 ?_
  refine J_iadd hX dL_law_1192 ?_
  refine J_sld hX hsc dL_law_1193 h (fun h => ?_)
  refine J_aload_n hX dL_law_1194 rfl 0 rfl ?_
  refine J_iload hX dL_law_1195 4 rfl ?_
  refine J_iconst hX (2 : Int32) dL_law_1197 ic_2 ?_
  refine J_iadd hX dL_law_1198 ?_
  refine J_sld hX hsc dL_law_1199 h (fun h => ?_)
  refine J_if_eq hX 1207 dL_law_1200 (by decide) h (fun c h => ?_) (fun c h => ?_)
  · refine J_iconst hX (0 : Int32) dL_law_1207 ic_0 ?_
    obtain ⟨r2, m1, h0, h⟩ := bd2_some h
    refine J_callVi (As := [.int (xs (ix (v4 + (1 : Int32)))), .int (0 : Int32)]) (st := []) hX dL_law_1208 cw_RL_151 (by omega) (c_X10_see hn ht hu hw hv h0) (ltn ltc_0 hn) lo_0 (by decide) rfl rfl rfl (Nat.le_of_ble_eq_true rfl) ?_
    clear h0
    refine J_aload_n hX dL_law_1211 rfl 2 rfl ?_
    refine J_aload_n hX dL_law_1212 rfl 0 rfl ?_
    refine J_iload hX dL_law_1213 4 rfl ?_
    refine J_iconst hX (1 : Int32) dL_law_1215 ic_1 ?_
    refine J_iadd hX dL_law_1216 ?_
    refine J_sld hX hsc dL_law_1217 h (fun h => ?_)
    refine J_aload_n hX dL_law_1218 rfl 0 rfl ?_
    refine J_iload hX dL_law_1219 4 rfl ?_
    refine J_iconst hX (2 : Int32) dL_law_1221 ic_2 ?_
    refine J_iadd hX dL_law_1222 ?_
    refine J_sld hX hsc dL_law_1223 h (fun h => ?_)
    refine J_if_eq hX 1231 dL_law_1224 (by decide) h (fun c h => ?_) (fun c h => ?_)
    · refine J_iconst hX (0 : Int32) dL_law_1231 ic_0 ?_
      obtain ⟨r4, m3, h0, h⟩ := bd2_some h
      refine J_callVi (As := [.int (xs (ix (v4 + (1 : Int32)))), .int (0 : Int32)]) (st := [.int r2]) hX dL_law_1232 cw_RL_155 (by omega) (c_X11_see hn  h0) (ltn ltc_78 hn) lo_78 (by decide) rfl rfl rfl (Nat.le_of_ble_eq_true rfl) ?_
      clear h0
      refine J_icmp_eq hX 1393 dL_law_1235 (by decide) h (fun c h => ?_) (fun c h => ?_)
      · exact J_widenY (X.2.2.1 + 1) (X.2.2.2.1 + 6) (by (try simp only [bump]); omega) (by (try simp only [bump]); omega) (hK ht hu hw hv hx h)
      · refine J_iconst hX (0 : Int32) dL_law_1238 ic_0 ?_
        cases h
    · refine J_iconst hX (1 : Int32) dL_law_1227 ic_1 ?_
      refine J_goto hX 1232 dL_law_1228 (by decide) ?_
      obtain ⟨r6, m5, h0, h⟩ := bd2_some h
      refine J_callVi (As := [.int (xs (ix (v4 + (1 : Int32)))), .int (1 : Int32)]) (st := [.int r2]) hX dL_law_1232 cw_RL_155 (by omega) (c_X11_see hn  h0) (ltn ltc_78 hn) lo_78 (by decide) rfl rfl rfl (Nat.le_of_ble_eq_true rfl) ?_
      clear h0
      refine J_icmp_eq hX 1393 dL_law_1235 (by decide) h (fun c h => ?_) (fun c h => ?_)
      · exact J_widenY (X.2.2.1 + 1) (X.2.2.2.1 + 6) (by (try simp only [bump]); omega) (by (try simp only [bump]); omega) (hK ht hu hw hv hx h)
      · refine J_iconst hX (0 : Int32) dL_law_1238 ic_0 ?_
        cases h
  · refine J_iconst hX (1 : Int32) dL_law_1203 ic_1 ?_
    refine J_goto hX 1208 dL_law_1204 (by decide) ?_
    obtain ⟨r8, m7, h0, h⟩ := bd2_some h
    refine J_callVi (As := [.int (xs (ix (v4 + (1 : Int32)))), .int (1 : Int32)]) (st := []) hX dL_law_1208 cw_RL_151 (by omega) (c_X10_see hn ht hu hw hv h0) (ltn ltc_0 hn) lo_0 (by decide) rfl rfl rfl (Nat.le_of_ble_eq_true rfl) ?_
    clear h0
    refine J_aload_n hX dL_law_1211 rfl 2 rfl ?_
    refine J_aload_n hX dL_law_1212 rfl 0 rfl ?_
    refine J_iload hX dL_law_1213 4 rfl ?_
    refine J_iconst hX (1 : Int32) dL_law_1215 ic_1 ?_
    refine J_iadd hX dL_law_1216 ?_
    refine J_sld hX hsc dL_law_1217 h (fun h => ?_)
    refine J_aload_n hX dL_law_1218 rfl 0 rfl ?_
    refine J_iload hX dL_law_1219 4 rfl ?_
    refine J_iconst hX (2 : Int32) dL_law_1221 ic_2 ?_
    refine J_iadd hX dL_law_1222 ?_
    refine J_sld hX hsc dL_law_1223 h (fun h => ?_)
    refine J_if_eq hX 1231 dL_law_1224 (by decide) h (fun c h => ?_) (fun c h => ?_)
    · refine J_iconst hX (0 : Int32) dL_law_1231 ic_0 ?_
      obtain ⟨r10, m9, h0, h⟩ := bd2_some h
      refine J_callVi (As := [.int (xs (ix (v4 + (1 : Int32)))), .int (0 : Int32)]) (st := [.int r8]) hX dL_law_1232 cw_RL_155 (by omega) (c_X11_see hn  h0) (ltn ltc_78 hn) lo_78 (by decide) rfl rfl rfl (Nat.le_of_ble_eq_true rfl) ?_
      clear h0
      refine J_icmp_eq hX 1393 dL_law_1235 (by decide) h (fun c h => ?_) (fun c h => ?_)
      · exact J_widenY (X.2.2.1 + 1) (X.2.2.2.1 + 6) (by (try simp only [bump]); omega) (by (try simp only [bump]); omega) (hK ht hu hw hv hx h)
      · refine J_iconst hX (0 : Int32) dL_law_1238 ic_0 ?_
        cases h
    · refine J_iconst hX (1 : Int32) dL_law_1227 ic_1 ?_
      refine J_goto hX 1232 dL_law_1228 (by decide) ?_
      obtain ⟨r12, m11, h0, h⟩ := bd2_some h
      refine J_callVi (As := [.int (xs (ix (v4 + (1 : Int32)))), .int (1 : Int32)]) (st := [.int r8]) hX dL_law_1232 cw_RL_155 (by omega) (c_X11_see hn  h0) (ltn ltc_78 hn) lo_78 (by decide) rfl rfl rfl (Nat.le_of_ble_eq_true rfl) ?_
      clear h0
      refine J_icmp_eq hX 1393 dL_law_1235 (by decide) h (fun c h => ?_) (fun c h => ?_)
      · exact J_widenY (X.2.2.1 + 1) (X.2.2.2.1 + 6) (by (try simp only [bump]); omega) (by (try simp only [bump]); omega) (hK ht hu hw hv hx h)
      · refine J_iconst hX (0 : Int32) dL_law_1238 ic_0 ?_
        cases h
theorem t_law_c31 {X : XX} {G : GG} {ρ : Nat → Nat} {d L : Nat} {xs : Nat → Int32} {t u w v : Nat} {x : Option Nat} (hX : Ok X G ρ cL_law 7 RL d) (hsc : Scr X G ρ L xs) (hd0 : 400 ≤ d) (hn : 126 ≤ 126) (hr1 : X.2.2.1 + 1 ≤ X.1.2.2.2.1.cells) (hr2 : X.2.2.2.1 + 6 ≤ X.1.2.2.2.1.slots) (ht : isTo t) (hu : isTo u) (hw : isWk w) (hv : isWk v) (hx : ∀ b, x = some b → isTo b) {K : Nat → Nat → Nat → Nat → Option Nat → Mm → Option Unit} {v4 : Int32} (hK : ∀ {t u w v : Nat} {x : Option Nat} {m : Mm}, isTo t → isTo u → isWk w → isWk v → (∀ b, x = some b → isTo b) → K t u w v x m = some () → J (bump X 1 6) G ρ 126 7 1393 [(0, .ref 4000), (1, .ref 0), (2, .ref 78), (3, .ref 125), (4, .int v4)] [] (RT t u w v x) m) {m : Mm} (h : f_law_c31 L xs t u w v x K v4 m = some ()) : J X G ρ 126 7 1240 [(0, .ref 4000), (1, .ref 0), (2, .ref 78), (3, .ref 125), (4, .int v4)] [] (RT t u w v x) m := by
  unfold f_law_c31 at h
  refine J_aload_n hX dL_law_1240 rfl 1 rfl ?_
  obtain ⟨r2, m1, h0, h⟩ := bd2_some h
  refine J_callVi (As := []) (st := []) hX dL_law_1241 cw_RL_156 (by omega) (c_X10_who hn ht hu hw hv h0) (ltn ltc_0 hn) lo_0 (by decide) rfl rfl rfl (Nat.le_of_ble_eq_true rfl) ?_
  clear h0
  refine J_aload_n hX dL_law_1244 rfl 2 rfl ?_
  obtain ⟨r4, m3, h0, h⟩ := bd2_some h
  refine J_callVi (As := []) (st := [.int r2]) hX dL_law_1245 cw_RL_159 (by omega) (c_X11_who hn  h0) (ltn ltc_78 hn) lo_78 (by decide) rfl rfl rfl (Nat.le_of_ble_eq_true rfl) ?_
  clear h0
  refine J_icmp_eq hX 1393 dL_law_1248 (by decide) h (fun c h => ?_) (fun c h => ?_)
  · exact J_widenY (X.2.2.1 + 1) (X.2.2.2.1 + 6) (by (try simp only [bump]); omega) (by (try simp only [bump]); omega) (hK ht hu hw hv hx h)
  · refine J_iconst hX (0 : Int32) dL_law_1251 ic_0 ?_
    cases h
theorem t_law_c32 {X : XX} {G : GG} {ρ : Nat → Nat} {d L : Nat} {xs : Nat → Int32} {t u w v : Nat} {x : Option Nat} (hX : Ok X G ρ cL_law 7 RL d) (hsc : Scr X G ρ L xs) (hd0 : 400 ≤ d) (hn : 126 ≤ 126) (hr1 : X.2.2.1 + 1 ≤ X.1.2.2.2.1.cells) (hr2 : X.2.2.2.1 + 6 ≤ X.1.2.2.2.1.slots) (ht : isTo t) (hu : isTo u) (hw : isWk w) (hv : isWk v) (hx : ∀ b, x = some b → isTo b) {K : Nat → Nat → Nat → Nat → Option Nat → Mm → Option Unit} {v4 : Int32} (hK : ∀ {t u w v : Nat} {x : Option Nat} {m : Mm}, isTo t → isTo u → isWk w → isWk v → (∀ b, x = some b → isTo b) → K t u w v x m = some () → J (bump X 1 6) G ρ 126 7 1393 [(0, .ref 4000), (1, .ref 0), (2, .ref 78), (3, .ref 125), (4, .int v4)] [] (RT t u w v x) m) {m : Mm} (h : f_law_c32 L xs t u w v x K v4 m = some ()) : J X G ρ 126 7 1253 [(0, .ref 4000), (1, .ref 0), (2, .ref 78), (3, .ref 125), (4, .int v4)] [] (RT t u w v x) m := by
  unfold f_law_c32 at h
  refine J_aload_n hX dL_law_1253 rfl 1 rfl ?_
  obtain ⟨r2, m1, h0, h⟩ := bd2_some h
  refine J_callVi (As := []) (st := []) hX dL_law_1254 cw_RL_160 (by omega) (c_X10_ask hn ht hu hw hv h0) (ltn ltc_0 hn) lo_0 (by decide) rfl rfl rfl (Nat.le_of_ble_eq_true rfl) ?_
  clear h0
  refine J_aload_n hX dL_law_1257 rfl 2 rfl ?_
  obtain ⟨r4, m3, h0, h⟩ := bd2_some h
  refine J_callVi (As := []) (st := [.int r2]) hX dL_law_1258 cw_RL_163 (by omega) (c_X11_ask hn  h0) (ltn ltc_78 hn) lo_78 (by decide) rfl rfl rfl (Nat.le_of_ble_eq_true rfl) ?_
  clear h0
  refine J_icmp_eq hX 1393 dL_law_1261 (by decide) h (fun c h => ?_) (fun c h => ?_)
  · exact J_widenY (X.2.2.1 + 1) (X.2.2.2.1 + 6) (by (try simp only [bump]); omega) (by (try simp only [bump]); omega) (hK ht hu hw hv hx h)
  · refine J_iconst hX (0 : Int32) dL_law_1264 ic_0 ?_
    cases h
theorem t_law_c33 {X : XX} {G : GG} {ρ : Nat → Nat} {d L : Nat} {xs : Nat → Int32} {t u w v : Nat} {x : Option Nat} (hX : Ok X G ρ cL_law 7 RL d) (hsc : Scr X G ρ L xs) (hd0 : 400 ≤ d) (hn : 126 ≤ 126) (hr1 : X.2.2.1 + 1 ≤ X.1.2.2.2.1.cells) (hr2 : X.2.2.2.1 + 6 ≤ X.1.2.2.2.1.slots) (ht : isTo t) (hu : isTo u) (hw : isWk w) (hv : isWk v) (hx : ∀ b, x = some b → isTo b) {K : Nat → Nat → Nat → Nat → Option Nat → Mm → Option Unit} {v4 : Int32} (hK : ∀ {t u w v : Nat} {x : Option Nat} {m : Mm}, isTo t → isTo u → isWk w → isWk v → (∀ b, x = some b → isTo b) → K t u w v x m = some () → J (bump X 1 6) G ρ 126 7 1393 [(0, .ref 4000), (1, .ref 0), (2, .ref 78), (3, .ref 125), (4, .int v4)] [] (RT t u w v x) m) {m : Mm} (h : f_law_c33 L xs t u w v x K v4 m = some ()) : J X G ρ 126 7 1266 [(0, .ref 4000), (1, .ref 0), (2, .ref 78), (3, .ref 125), (4, .int v4)] [] (RT t u w v x) m := by
  unfold f_law_c33 at h
  refine J_aload_n hX dL_law_1266 rfl 1 rfl ?_
  refine J_aload_n hX dL_law_1267 rfl 0 rfl ?_
  refine J_iload hX dL_law_1268 4 rfl ?_
  refine J_iconst hX (1 : Int32) dL_law_1270 ic_1 ?_
  refine J_iadd hX dL_law_1271 ?_
  refine J_sld hX hsc dL_law_1272 h (fun h => ?_)
  refine J_aload_n hX dL_law_1273 rfl 0 rfl ?_
  refine J_iload hX dL_law_1274 4 rfl ?_
  refine J_iconst hX (2 : Int32) dL_law_1276 ic_2 ?_
  refine J_iadd hX dL_law_1277 ?_
  refine J_sld hX hsc dL_law_1278 h (fun h => ?_)
  refine J_aload_n hX dL_law_1279 rfl 0 rfl ?_
  refine J_iload hX dL_law_1280 4 rfl ?_
  refine J_iconst hX (3 : Int32) dL_law_1282 ic_3 ?_
  refine J_iadd hX dL_law_1283 ?_
  refine J_sld hX hsc dL_law_1284 h (fun h => ?_)
  obtain ⟨r2, m1, h0, h⟩ := bd2_some h
  refine J_callVAi (As := [.int (xs (ix (v4 + (1 : Int32)))), .int (xs (ix (v4 + (2 : Int32)))), .int (xs (ix (v4 + (3 : Int32))))]) (st := []) hX dL_law_1285 cw_RL_164 (by omega) (c_X10_loads hn ht hu hw hv hx h0) (by omega) (by omega) (ltn ltc_0 hn) lo_0 (by decide) rfl rfl rfl (Nat.le_of_ble_eq_true rfl) ?_
  clear h0
  have hX := Ok_bump (k := 1) (s := 1) hX (fun _ _ => rfl) (by omega) (by omega)
  refine J_aload_n hX dL_law_1288 rfl 2 rfl ?_
  refine J_aload_n hX dL_law_1289 rfl 0 rfl ?_
  refine J_iload hX dL_law_1290 4 rfl ?_
  refine J_iconst hX (1 : Int32) dL_law_1292 ic_1 ?_
  refine J_iadd hX dL_law_1293 ?_
  refine J_sld hX hsc dL_law_1294 h (fun h => ?_)
  refine J_aload_n hX dL_law_1295 rfl 0 rfl ?_
  refine J_iload hX dL_law_1296 4 rfl ?_
  refine J_iconst hX (2 : Int32) dL_law_1298 ic_2 ?_
  refine J_iadd hX dL_law_1299 ?_
  refine J_sld hX hsc dL_law_1300 h (fun h => ?_)
  refine J_aload_n hX dL_law_1301 rfl 0 rfl ?_
  refine J_iload hX dL_law_1302 4 rfl ?_
  refine J_iconst hX (3 : Int32) dL_law_1304 ic_3 ?_
  refine J_iadd hX dL_law_1305 ?_
  refine J_sld hX hsc dL_law_1306 h (fun h => ?_)
  obtain ⟨r4, m3, h0, h⟩ := bd2_some h
  refine J_callVi (As := [.int (xs (ix (v4 + (1 : Int32)))), .int (xs (ix (v4 + (2 : Int32)))), .int (xs (ix (v4 + (3 : Int32))))]) (st := [.int r2]) hX dL_law_1307 cw_RL_167 (by omega) (c_X11_loads hn  h0) (ltn ltc_78 hn) lo_78 (by decide) rfl rfl rfl (Nat.le_of_ble_eq_true rfl) ?_
  clear h0
  refine J_icmp_eq hX 1393 dL_law_1310 (by decide) h (fun c h => ?_) (fun c h => ?_)
  · exact J_widenY (X.2.2.1 + 1) (X.2.2.2.1 + 6) (by (try simp only [bump]); omega) (by (try simp only [bump]); omega) (hK ht hu hw hv hx h)
  · refine J_iconst hX (0 : Int32) dL_law_1313 ic_0 ?_
    cases h
theorem t_law_c34 {X : XX} {G : GG} {ρ : Nat → Nat} {d L : Nat} {xs : Nat → Int32} {t u w v : Nat} {x : Option Nat} (hX : Ok X G ρ cL_law 7 RL d) (hsc : Scr X G ρ L xs) (hd0 : 400 ≤ d) (hn : 126 ≤ 126) (hr1 : X.2.2.1 + 1 ≤ X.1.2.2.2.1.cells) (hr2 : X.2.2.2.1 + 6 ≤ X.1.2.2.2.1.slots) (ht : isTo t) (hu : isTo u) (hw : isWk w) (hv : isWk v) (hx : ∀ b, x = some b → isTo b) {K : Nat → Nat → Nat → Nat → Option Nat → Mm → Option Unit} {v4 : Int32} (hK : ∀ {t u w v : Nat} {x : Option Nat} {m : Mm}, isTo t → isTo u → isWk w → isWk v → (∀ b, x = some b → isTo b) → K t u w v x m = some () → J (bump X 1 6) G ρ 126 7 1393 [(0, .ref 4000), (1, .ref 0), (2, .ref 78), (3, .ref 125), (4, .int v4)] [] (RT t u w v x) m) {m : Mm} (h : f_law_c34 L xs t u w v x K v4 m = some ()) : J X G ρ 126 7 1315 [(0, .ref 4000), (1, .ref 0), (2, .ref 78), (3, .ref 125), (4, .int v4)] [] (RT t u w v x) m := by
  unfold f_law_c34 at h
  refine J_aload_n hX dL_law_1315 rfl 1 rfl ?_
  refine J_aload_n hX dL_law_1316 rfl 0 rfl ?_
  refine J_iload hX dL_law_1317 4 rfl ?_
  refine J_iconst hX (1 : Int32) dL_law_1319 ic_1 ?_
  refine J_iadd hX dL_law_1320 ?_
  refine J_sld hX hsc dL_law_1321 h (fun h => ?_)
  refine J_aload_n hX dL_law_1322 rfl 0 rfl ?_
  refine J_iload hX dL_law_1323 4 rfl ?_
  refine J_iconst hX (2 : Int32) dL_law_1325 ic_2 ?_
  refine J_iadd hX dL_law_1326 ?_
  refine J_sld hX hsc dL_law_1327 h (fun h => ?_)
  refine J_if_eq hX 1335 dL_law_1328 (by decide) h (fun c h => ?_) (fun c h => ?_)
  · refine J_iconst hX (0 : Int32) dL_law_1335 ic_0 ?_
    obtain ⟨r2, m1, h0, h⟩ := bd2_some h
    refine J_callVi (As := [.int (xs (ix (v4 + (1 : Int32)))), .int (0 : Int32)]) (st := []) hX dL_law_1336 cw_RL_168 (by omega) (c_X10_mark hn ht hu hw hv h0) (ltn ltc_0 hn) lo_0 (by decide) rfl rfl rfl (Nat.le_of_ble_eq_true rfl) ?_
    clear h0
    refine J_aload_n hX dL_law_1339 rfl 2 rfl ?_
    refine J_aload_n hX dL_law_1340 rfl 0 rfl ?_
    refine J_iload hX dL_law_1341 4 rfl ?_
    refine J_iconst hX (1 : Int32) dL_law_1343 ic_1 ?_
    refine J_iadd hX dL_law_1344 ?_
    refine J_sld hX hsc dL_law_1345 h (fun h => ?_)
    refine J_aload_n hX dL_law_1346 rfl 0 rfl ?_
    refine J_iload hX dL_law_1347 4 rfl ?_
    refine J_iconst hX (2 : Int32) dL_law_1349 ic_2 ?_
    refine J_iadd hX dL_law_1350 ?_
    refine J_sld hX hsc dL_law_1351 h (fun h => ?_)
    refine J_if_eq hX 1359 dL_law_1352 (by decide) h (fun c h => ?_) (fun c h => ?_)
    · refine J_iconst hX (0 : Int32) dL_law_1359 ic_0 ?_
      obtain ⟨r4, m3, h0, h⟩ := bd2_some h
      refine J_callVi (As := [.int (xs (ix (v4 + (1 : Int32)))), .int (0 : Int32)]) (st := [.int r2]) hX dL_law_1360 cw_RL_171 (by omega) (c_X11_mark hn  h0) (ltn ltc_78 hn) lo_78 (by decide) rfl rfl rfl (Nat.le_of_ble_eq_true rfl) ?_
      clear h0
      refine J_icmp_eq hX 1393 dL_law_1363 (by decide) h (fun c h => ?_) (fun c h => ?_)
      · exact J_widenY (X.2.2.1 + 1) (X.2.2.2.1 + 6) (by (try simp only [bump]); omega) (by (try simp only [bump]); omega) (hK ht hu hw hv hx h)
      · refine J_iconst hX (0 : Int32) dL_law_1366 ic_0 ?_
        cases h
    · refine J_iconst hX (1 : Int32) dL_law_1355 ic_1 ?_
      refine J_goto hX 1360 dL_law_1356 (by decide) ?_
      obtain ⟨r6, m5, h0, h⟩ := bd2_some h
      refine J_callVi (As := [.int (xs (ix (v4 + (1 : Int32)))), .int (1 : Int32)]) (st := [.int r2]) hX dL_law_1360 cw_RL_171 (by omega) (c_X11_mark hn  h0) (ltn ltc_78 hn) lo_78 (by decide) rfl rfl rfl (Nat.le_of_ble_eq_true rfl) ?_
      clear h0
      refine J_icmp_eq hX 1393 dL_law_1363 (by decide) h (fun c h => ?_) (fun c h => ?_)
      · exact J_widenY (X.2.2.1 + 1) (X.2.2.2.1 + 6) (by (try simp only [bump]); omega) (by (try simp only [bump]); omega) (hK ht hu hw hv hx h)
      · refine J_iconst hX (0 : Int32) dL_law_1366 ic_0 ?_
        cases h
  · refine J_iconst hX (1 : Int32) dL_law_1331 ic_1 ?_
    refine J_goto hX 1336 dL_law_1332 (by decide) ?_
    obtain ⟨r8, m7, h0, h⟩ := bd2_some h
    refine J_callVi (As := [.int (xs (ix (v4 + (1 : Int32)))), .int (1 : Int32)]) (st := []) hX dL_law_1336 cw_RL_168 (by omega) (c_X10_mark hn ht hu hw hv h0) (ltn ltc_0 hn) lo_0 (by decide) rfl rfl rfl (Nat.le_of_ble_eq_true rfl) ?_
    clear h0
    refine J_aload_n hX dL_law_1339 rfl 2 rfl ?_
    refine J_aload_n hX dL_law_1340 rfl 0 rfl ?_
    refine J_iload hX dL_law_1341 4 rfl ?_
    refine J_iconst hX (1 : Int32) dL_law_1343 ic_1 ?_
    refine J_iadd hX dL_law_1344 ?_
    refine J_sld hX hsc dL_law_1345 h (fun h => ?_)
    refine J_aload_n hX dL_law_1346 rfl 0 rfl ?_
    refine J_iload hX dL_law_1347 4 rfl ?_
    refine J_iconst hX (2 : Int32) dL_law_1349 ic_2 ?_
    refine J_iadd hX dL_law_1350 ?_
    refine J_sld hX hsc dL_law_1351 h (fun h => ?_)
    refine J_if_eq hX 1359 dL_law_1352 (by decide) h (fun c h => ?_) (fun c h => ?_)
    · refine J_iconst hX (0 : Int32) dL_law_1359 ic_0 ?_
      obtain ⟨r10, m9, h0, h⟩ := bd2_some h
      refine J_callVi (As := [.int (xs (ix (v4 + (1 : Int32)))), .int (0 : Int32)]) (st := [.int r8]) hX dL_law_1360 cw_RL_171 (by omega) (c_X11_mark hn  h0) (ltn ltc_78 hn) lo_78 (by decide) rfl rfl rfl (Nat.le_of_ble_eq_true rfl) ?_
      clear h0
      refine J_icmp_eq hX 1393 dL_law_1363 (by decide) h (fun c h => ?_) (fun c h => ?_)
      · exact J_widenY (X.2.2.1 + 1) (X.2.2.2.1 + 6) (by (try simp only [bump]); omega) (by (try simp only [bump]); omega) (hK ht hu hw hv hx h)
      · refine J_iconst hX (0 : Int32) dL_law_1366 ic_0 ?_
        cases h
    · refine J_iconst hX (1 : Int32) dL_law_1355 ic_1 ?_
      refine J_goto hX 1360 dL_law_1356 (by decide) ?_
      obtain ⟨r12, m11, h0, h⟩ := bd2_some h
      refine J_callVi (As := [.int (xs (ix (v4 + (1 : Int32)))), .int (1 : Int32)]) (st := [.int r8]) hX dL_law_1360 cw_RL_171 (by omega) (c_X11_mark hn  h0) (ltn ltc_78 hn) lo_78 (by decide) rfl rfl rfl (Nat.le_of_ble_eq_true rfl) ?_
      clear h0
      refine J_icmp_eq hX 1393 dL_law_1363 (by decide) h (fun c h => ?_) (fun c h => ?_)
      · exact J_widenY (X.2.2.1 + 1) (X.2.2.2.1 + 6) (by (try simp only [bump]); omega) (by (try simp only [bump]); omega) (hK ht hu hw hv hx h)
      · refine J_iconst hX (0 : Int32) dL_law_1366 ic_0 ?_
        cases h
theorem t_law_c35 {X : XX} {G : GG} {ρ : Nat → Nat} {d L : Nat} {xs : Nat → Int32} {t u w v : Nat} {x : Option Nat} (hX : Ok X G ρ cL_law 7 RL d) (hsc : Scr X G ρ L xs) (hd0 : 400 ≤ d) (hn : 126 ≤ 126) (hr1 : X.2.2.1 + 1 ≤ X.1.2.2.2.1.cells) (hr2 : X.2.2.2.1 + 6 ≤ X.1.2.2.2.1.slots) (ht : isTo t) (hu : isTo u) (hw : isWk w) (hv : isWk v) (hx : ∀ b, x = some b → isTo b) {K : Nat → Nat → Nat → Nat → Option Nat → Mm → Option Unit} {v4 : Int32} (hK : ∀ {t u w v : Nat} {x : Option Nat} {m : Mm}, isTo t → isTo u → isWk w → isWk v → (∀ b, x = some b → isTo b) → K t u w v x m = some () → J (bump X 1 6) G ρ 126 7 1393 [(0, .ref 4000), (1, .ref 0), (2, .ref 78), (3, .ref 125), (4, .int v4)] [] (RT t u w v x) m) {m : Mm} (h : f_law_c35 L xs t u w v x K v4 m = some ()) : J X G ρ 126 7 1368 [(0, .ref 4000), (1, .ref 0), (2, .ref 78), (3, .ref 125), (4, .int v4)] [] (RT t u w v x) m := by
  unfold f_law_c35 at h
  refine J_aload_n hX dL_law_1368 rfl 1 rfl ?_
  refine J_aload_n hX dL_law_1369 rfl 0 rfl ?_
  refine J_iload hX dL_law_1370 4 rfl ?_
  refine J_iconst hX (1 : Int32) dL_law_1372 ic_1 ?_
  refine J_iadd hX dL_law_1373 ?_
  refine J_sld hX hsc dL_law_1374 h (fun h => ?_)
  obtain ⟨r2, m1, h0, h⟩ := bd2_some h
  refine J_callVi (As := [.int (xs (ix (v4 + (1 : Int32))))]) (st := []) hX dL_law_1375 cw_RL_172 (by omega) (c_X10_count hn ht hu hw hv h0) (ltn ltc_0 hn) lo_0 (by decide) rfl rfl rfl (Nat.le_of_ble_eq_true rfl) ?_
  clear h0
  refine J_aload_n hX dL_law_1378 rfl 2 rfl ?_
  refine J_aload_n hX dL_law_1379 rfl 0 rfl ?_
  refine J_iload hX dL_law_1380 4 rfl ?_
  refine J_iconst hX (1 : Int32) dL_law_1382 ic_1 ?_
  refine J_iadd hX dL_law_1383 ?_
  refine J_sld hX hsc dL_law_1384 h (fun h => ?_)
  obtain ⟨r4, m3, h0, h⟩ := bd2_some h
  refine J_callVi (As := [.int (xs (ix (v4 + (1 : Int32))))]) (st := [.int r2]) hX dL_law_1385 cw_RL_175 (by omega) (c_X11_count hn  h0) (ltn ltc_78 hn) lo_78 (by decide) rfl rfl rfl (Nat.le_of_ble_eq_true rfl) ?_
  clear h0
  refine J_icmp_eq hX 1393 dL_law_1388 (by decide) h (fun c h => ?_) (fun c h => ?_)
  · exact J_widenY (X.2.2.1 + 1) (X.2.2.2.1 + 6) (by (try simp only [bump]); omega) (by (try simp only [bump]); omega) (hK ht hu hw hv hx h)
  · refine J_iconst hX (0 : Int32) dL_law_1391 ic_0 ?_
    cases h
set_option maxRecDepth 20000 in
theorem t_step {X : XX} {G : GG} {ρ : Nat → Nat} {d L : Nat} {xs : Nat → Int32} {t u w v : Nat} {x : Option Nat} (hX : Ok X G ρ cL_law 7 RL d) (hL : LostR X G ρ) (hsc : Scr X G ρ L xs) (hd0 : 400 ≤ d) (hr1 : X.2.2.1 + 1 ≤ X.1.2.2.2.1.cells) (hr2 : X.2.2.2.1 + 6 ≤ X.1.2.2.2.1.slots) (ht : isTo t) (hu : isTo u) (hw : isWk w) (hv : isWk v) (hx : ∀ b, x = some b → isTo b) {K : Nat → Nat → Nat → Nat → Option Nat → Mm → Option Unit} {v4 : Int32} (hK : ∀ {t u w v : Nat} {x : Option Nat} {m : Mm}, isTo t → isTo u → isWk w → isWk v → (∀ b, x = some b → isTo b) → K t u w v x m = some () → J (bump X 1 6) G ρ 126 7 1393 [(0, .ref 4000), (1, .ref 0), (2, .ref 78), (3, .ref 125), (4, .int v4)] [] (RT t u w v x) m) {m : Mm} (h : f_step L xs t u w v x K v4 m = some ()) : J X G ρ 126 7 33 [(0, .ref 4000), (1, .ref 0), (2, .ref 78), (3, .ref 125), (4, .int v4)] [] (RT t u w v x) m := by
  unfold f_step at h
  refine J_aload_n hX dL_law_33 rfl 0 rfl ?_
  refine J_iload hX dL_law_34 4 rfl ?_
  refine J_sld hX hsc dL_law_36 h (fun h => ?_)
  refine J_bipush hX (63 : Int32) dL_law_37 (by decide) ?_
  refine J_iand hX dL_law_39 ?_
  refine J_split h (fun c0 h => ?_) (fun c0 h => ?_)
  · refine J_tabIn hX 200 (0 : Int32) dL_law_40 c0 (by decide) (by decide) (by decide) (by decide) ?_
    exact t_law_c0 hX hsc hd0 (Nat.le_refl _) hr1 hr2 ht hu hw hv hx hK h
  · refine J_split h (fun c1 h => ?_) (fun c1 h => ?_)
    · refine J_tabIn hX 347 (1 : Int32) dL_law_40 c1 (by decide) (by decide) (by decide) (by decide) ?_
      exact t_law_c1 hX hsc hd0 (Nat.le_refl _) hr1 hr2 ht hu hw hv hx hK h
    · refine J_split h (fun c2 h => ?_) (fun c2 h => ?_)
      · refine J_tabIn hX 360 (2 : Int32) dL_law_40 c2 (by decide) (by decide) (by decide) (by decide) ?_
        exact t_law_c2 hX hsc hd0 (Nat.le_refl _) hr1 hr2 ht hu hw hv hx hK h
      · refine J_split h (fun c3 h => ?_) (fun c3 h => ?_)
        · refine J_tabIn hX 373 (3 : Int32) dL_law_40 c3 (by decide) (by decide) (by decide) (by decide) ?_
          exact t_law_c3 hX hsc hd0 (Nat.le_refl _) hr1 hr2 ht hu hw hv hx hK h
        · refine J_split h (fun c4 h => ?_) (fun c4 h => ?_)
          · refine J_tabIn hX 410 (4 : Int32) dL_law_40 c4 (by decide) (by decide) (by decide) (by decide) ?_
            exact t_law_c4 hX hsc hd0 (Nat.le_refl _) hr1 hr2 ht hu hw hv hx hK h
          · refine J_split h (fun c5 h => ?_) (fun c5 h => ?_)
            · refine J_tabIn hX 459 (5 : Int32) dL_law_40 c5 (by decide) (by decide) (by decide) (by decide) ?_
              exact t_law_c5 hX hsc hd0 (Nat.le_refl _) hr1 hr2 ht hu hw hv hx hK h
            · refine J_split h (fun c6 h => ?_) (fun c6 h => ?_)
              · refine J_tabIn hX 496 (6 : Int32) dL_law_40 c6 (by decide) (by decide) (by decide) (by decide) ?_
                exact t_law_c6 hX hsc hd0 (Nat.le_refl _) hr1 hr2 ht hu hw hv hx hK h
              · refine J_split h (fun c7 h => ?_) (fun c7 h => ?_)
                · refine J_tabIn hX 533 (7 : Int32) dL_law_40 c7 (by decide) (by decide) (by decide) (by decide) ?_
                  exact t_law_c7 hX hsc hd0 (Nat.le_refl _) hr1 hr2 ht hu hw hv hx hK h
                · refine J_split h (fun c8 h => ?_) (fun c8 h => ?_)
                  · refine J_tabIn hX 570 (8 : Int32) dL_law_40 c8 (by decide) (by decide) (by decide) (by decide) ?_
                    exact t_law_c8 hX hsc hd0 (Nat.le_refl _) hr1 hr2 ht hu hw hv hx hK h
                  · refine J_split h (fun c9 h => ?_) (fun c9 h => ?_)
                    · refine J_tabIn hX 595 (9 : Int32) dL_law_40 c9 (by decide) (by decide) (by decide) (by decide) ?_
                      exact t_law_c9 hX hsc hd0 (Nat.le_refl _) hr1 hr2 ht hu hw hv hx hK h
                    · refine J_split h (fun c10 h => ?_) (fun c10 h => ?_)
                      · refine J_tabIn hX 632 (10 : Int32) dL_law_40 c10 (by decide) (by decide) (by decide) (by decide) ?_
                        exact t_law_c10 hX hsc hd0 (Nat.le_refl _) hr1 hr2 ht hu hw hv hx hK h
                      · refine J_split h (fun c11 h => ?_) (fun c11 h => ?_)
                        · refine J_tabIn hX 657 (11 : Int32) dL_law_40 c11 (by decide) (by decide) (by decide) (by decide) ?_
                          exact t_law_c11 hX hsc hd0 (Nat.le_refl _) hr1 hr2 ht hu hw hv hx hK h
                        · refine J_split h (fun c12 h => ?_) (fun c12 h => ?_)
                          · refine J_tabIn hX 682 (12 : Int32) dL_law_40 c12 (by decide) (by decide) (by decide) (by decide) ?_
                            exact t_law_c12 hX hsc hd0 (Nat.le_refl _) hr1 hr2 ht hu hw hv hx hK h
                          · refine J_split h (fun c13 h => ?_) (fun c13 h => ?_)
                            · refine J_tabIn hX 707 (13 : Int32) dL_law_40 c13 (by decide) (by decide) (by decide) (by decide) ?_
                              exact t_law_c13 hX hsc hd0 (Nat.le_refl _) hr1 hr2 ht hu hw hv hx hK h
                            · refine J_split h (fun c14 h => ?_) (fun c14 h => ?_)
                              · refine J_tabIn hX 732 (14 : Int32) dL_law_40 c14 (by decide) (by decide) (by decide) (by decide) ?_
                                exact t_law_c14 hX hsc hd0 (Nat.le_refl _) hr1 hr2 ht hu hw hv hx hK h
                              · refine J_split h (fun c15 h => ?_) (fun c15 h => ?_)
                                · refine J_tabIn hX 757 (15 : Int32) dL_law_40 c15 (by decide) (by decide) (by decide) (by decide) ?_
                                  exact t_law_c15 hX hsc hd0 (Nat.le_refl _) hr1 hr2 ht hu hw hv hx hK h
                                · refine J_split h (fun c16 h => ?_) (fun c16 h => ?_)
                                  · refine J_tabIn hX 794 (16 : Int32) dL_law_40 c16 (by decide) (by decide) (by decide) (by decide) ?_
                                    exact t_law_c16 hX hsc hd0 (Nat.le_refl _) hr1 hr2 ht hu hw hv hx hK h
                                  · refine J_split h (fun c17 h => ?_) (fun c17 h => ?_)
                                    · refine J_tabIn hX 807 (17 : Int32) dL_law_40 c17 (by decide) (by decide) (by decide) (by decide) ?_
                                      exact t_law_c17 hX hsc hd0 (Nat.le_refl _) hr1 hr2 ht hu hw hv hx hK h
                                    · refine J_split h (fun c18 h => ?_) (fun c18 h => ?_)
                                      · refine J_tabIn hX 832 (18 : Int32) dL_law_40 c18 (by decide) (by decide) (by decide) (by decide) ?_
                                        exact t_law_c18 hX hsc hd0 (Nat.le_refl _) hr1 hr2 ht hu hw hv hx hK h
                                      · refine J_split h (fun c19 h => ?_) (fun c19 h => ?_)
                                        · refine J_tabIn hX 857 (19 : Int32) dL_law_40 c19 (by decide) (by decide) (by decide) (by decide) ?_
                                          exact t_law_c19 hX hsc hd0 (Nat.le_refl _) hr1 hr2 ht hu hw hv hx hK h
                                        · refine J_split h (fun c20 h => ?_) (fun c20 h => ?_)
                                          · refine J_tabIn hX 894 (20 : Int32) dL_law_40 c20 (by decide) (by decide) (by decide) (by decide) ?_
                                            exact t_law_c20 hX hsc hd0 (Nat.le_refl _) hr1 hr2 ht hu hw hv hx hK h
                                          · refine J_split h (fun c21 h => ?_) (fun c21 h => ?_)
                                            · refine J_tabIn hX 907 (21 : Int32) dL_law_40 c21 (by decide) (by decide) (by decide) (by decide) ?_
                                              exact t_law_c21 hX hsc hd0 (Nat.le_refl _) hr1 hr2 ht hu hw hv hx hK h
                                            · refine J_split h (fun c22 h => ?_) (fun c22 h => ?_)
                                              · refine J_tabIn hX 932 (22 : Int32) dL_law_40 c22 (by decide) (by decide) (by decide) (by decide) ?_
                                                exact t_law_c22 hX hsc hd0 (Nat.le_refl _) hr1 hr2 ht hu hw hv hx hK h
                                              · refine J_split h (fun c23 h => ?_) (fun c23 h => ?_)
                                                · refine J_tabIn hX 957 (23 : Int32) dL_law_40 c23 (by decide) (by decide) (by decide) (by decide) ?_
                                                  exact t_law_c23 hX hsc hd0 (Nat.le_refl _) hr1 hr2 ht hu hw hv hx hK h
                                                · refine J_split h (fun c24 h => ?_) (fun c24 h => ?_)
                                                  · refine J_tabIn hX 982 (24 : Int32) dL_law_40 c24 (by decide) (by decide) (by decide) (by decide) ?_
                                                    exact t_law_c24 hX hsc hd0 (Nat.le_refl _) hr1 hr2 ht hu hw hv hx hK h
                                                  · refine J_split h (fun c25 h => ?_) (fun c25 h => ?_)
                                                    · refine J_tabIn hX 1019 (25 : Int32) dL_law_40 c25 (by decide) (by decide) (by decide) (by decide) ?_
                                                      exact t_law_c25 hX hsc hd0 (Nat.le_refl _) hr1 hr2 ht hu hw hv hx hK h
                                                    · refine J_split h (fun c26 h => ?_) (fun c26 h => ?_)
                                                      · refine J_tabIn hX 1056 (26 : Int32) dL_law_40 c26 (by decide) (by decide) (by decide) (by decide) ?_
                                                        exact t_law_c26 hX hsc hd0 (Nat.le_refl _) hr1 hr2 ht hu hw hv hx hK h
                                                      · refine J_split h (fun c27 h => ?_) (fun c27 h => ?_)
                                                        · refine J_tabIn hX 1081 (27 : Int32) dL_law_40 c27 (by decide) (by decide) (by decide) (by decide) ?_
                                                          exact t_law_c27 hX hsc hd0 (Nat.le_refl _) hr1 hr2 ht hu hw hv hx hK h
                                                        · refine J_split h (fun c28 h => ?_) (fun c28 h => ?_)
                                                          · refine J_tabIn hX 1094 (28 : Int32) dL_law_40 c28 (by decide) (by decide) (by decide) (by decide) ?_
                                                            exact t_law_c28 hX hsc hd0 (Nat.le_refl _) hr1 hr2 ht hu hw hv hx hK h
                                                          · refine J_split h (fun c29 h => ?_) (fun c29 h => ?_)
                                                            · refine J_tabIn hX 1131 (29 : Int32) dL_law_40 c29 (by decide) (by decide) (by decide) (by decide) ?_
                                                              exact t_law_c29 hX hsc hd0 (Nat.le_refl _) hr1 hr2 ht hu hw hv hx hL hK h
                                                            · refine J_split h (fun c30 h => ?_) (fun c30 h => ?_)
                                                              · refine J_tabIn hX 1187 (30 : Int32) dL_law_40 c30 (by decide) (by decide) (by decide) (by decide) ?_
                                                                exact t_law_c30 hX hsc hd0 (Nat.le_refl _) hr1 hr2 ht hu hw hv hx hK h
                                                              · refine J_split h (fun c31 h => ?_) (fun c31 h => ?_)
                                                                · refine J_tabIn hX 1240 (31 : Int32) dL_law_40 c31 (by decide) (by decide) (by decide) (by decide) ?_
                                                                  exact t_law_c31 hX hsc hd0 (Nat.le_refl _) hr1 hr2 ht hu hw hv hx hK h
                                                                · refine J_split h (fun c32 h => ?_) (fun c32 h => ?_)
                                                                  · refine J_tabIn hX 1253 (32 : Int32) dL_law_40 c32 (by decide) (by decide) (by decide) (by decide) ?_
                                                                    exact t_law_c32 hX hsc hd0 (Nat.le_refl _) hr1 hr2 ht hu hw hv hx hK h
                                                                  · refine J_split h (fun c33 h => ?_) (fun c33 h => ?_)
                                                                    · refine J_tabIn hX 1266 (33 : Int32) dL_law_40 c33 (by decide) (by decide) (by decide) (by decide) ?_
                                                                      exact t_law_c33 hX hsc hd0 (Nat.le_refl _) hr1 hr2 ht hu hw hv hx hK h
                                                                    · refine J_split h (fun c34 h => ?_) (fun c34 h => ?_)
                                                                      · refine J_tabIn hX 1315 (34 : Int32) dL_law_40 c34 (by decide) (by decide) (by decide) (by decide) ?_
                                                                        exact t_law_c34 hX hsc hd0 (Nat.le_refl _) hr1 hr2 ht hu hw hv hx hK h
                                                                      · refine J_split h (fun c35 h => ?_) (fun c35 h => ?_)
                                                                        · refine J_tabIn hX 1368 (35 : Int32) dL_law_40 c35 (by decide) (by decide) (by decide) (by decide) ?_
                                                                          exact t_law_c35 hX hsc hd0 (Nat.le_refl _) hr1 hr2 ht hu hw hv hx hK h
                                                                        · refine J_tabOut hX 1393 [(0 : Int32), (1 : Int32), (2 : Int32), (3 : Int32), (4 : Int32), (5 : Int32), (6 : Int32), (7 : Int32), (8 : Int32), (9 : Int32), (10 : Int32), (11 : Int32), (12 : Int32), (13 : Int32), (14 : Int32), (15 : Int32), (16 : Int32), (17 : Int32), (18 : Int32), (19 : Int32), (20 : Int32), (21 : Int32), (22 : Int32), (23 : Int32), (24 : Int32), (25 : Int32), (26 : Int32), (27 : Int32), (28 : Int32), (29 : Int32), (30 : Int32), (31 : Int32), (32 : Int32), (33 : Int32), (34 : Int32), (35 : Int32)] dL_law_40 (by decide) (by simp only [List.mem_cons, List.not_mem_nil, or_false, not_or]; exact ⟨c0, c1, c2, c3, c4, c5, c6, c7, c8, c9, c10, c11, c12, c13, c14, c15, c16, c17, c18, c19, c20, c21, c22, c23, c24, c25, c26, c27, c28, c29, c30, c31, c32, c33, c34, c35⟩) (by decide) ?_
                                                                          exact J_widenY (X.2.2.1 + 1) (X.2.2.2.1 + 6) (by omega) (by omega) (hK ht hu hw hv hx h)
theorem t_law {G : GG} {ρ : Nat → Nat} {d L : Nat} {xs : Nat → Int32} (hd0 : 400 ≤ d) (I : XX → Prop) (hI : ∀ X, I X → Ok X G ρ cL_law 7 RL d ∧ LostR X G ρ ∧ Scr X G ρ L xs) (hB : ∀ X, I X → X.2.2.1 + 1 ≤ X.1.2.2.2.1.cells → X.2.2.2.1 + 6 ≤ X.1.2.2.2.1.slots → I (bump X 1 6))
    (hE : ∀ X, I X → ∀ (lv : List (Nat × Value)) (rt : Rt) (m : Mm), J X G ρ 126 7 1399 lv [] rt m) :
    ∀ (k : Nat) (X : XX) (t u w v : Nat) (x : Option Nat) (v4 : Int32) (m : Mm), I X → X.2.2.1 + k ≤ X.1.2.2.2.1.cells → X.2.2.2.1 + 6 * k ≤ X.1.2.2.2.1.slots → isTo t → isTo u → isWk w → isWk v → (∀ b, x = some b → isTo b) → f_law L xs k t u w v x v4 m = some () → J X G ρ 126 7 23 [(0, .ref 4000), (1, .ref 0), (2, .ref 78), (3, .ref 125), (4, .int v4)] [] (RT t u w v x) m := by
  intro k
  induction k with
  | zero => intro X t u w v x v4 m _ _ _ _ _ _ _ _ h; cases h
  | succ k ih =>
    intro X t u w v x v4 m hIX hr1 hr2 ht hu hw hv hx h
    rw [f_law] at h
    obtain ⟨hX, hL, hsc⟩ := hI X hIX
    refine J_iload hX dL_law_23 4 rfl ?_
    refine J_aload_n hX dL_law_25 rfl 0 rfl ?_
    refine J_slen hX hsc dL_law_26 ?_
    refine J_bipush hX (7 : Int32) dL_law_27 (by decide) ?_
    refine J_isub hX dL_law_29 ?_
    refine J_icmp_gt hX 1399 dL_law_30 (by decide) h (fun c h => ?_) (fun c h => ?_)
    · exact hE X hIX _ _ _
    · refine t_step hX hL hsc hd0 (by omega) (by omega) ht hu hw hv hx (fun {t u w v x m} ht hu hw hv hx h => ?_) h
      have hIB := hB X hIX (by omega) (by omega)
      have hXB := (hI _ hIB).1
      refine J_iinc hXB (v4 + (7 : Int32)) [(4, .int (v4 + (7 : Int32))), (0, .ref 4000), (1, .ref 0), (2, .ref 78), (3, .ref 125)] dL_law_1393 4 rfl (congrArg (fun z => v4 + z) (by decide)) (by decide) rfl ?_
      refine J_goto hXB 23 dL_law_1396 (by decide) ?_
      refine J_sub [(0, .ref 4000), (1, .ref 0), (2, .ref 78), (3, .ref 125), (4, .int (v4 + (7 : Int32)))] [1, 2, 3, 4, 0] rfl ?_
      exact ih (bump X 1 6) t u w v x _ m hIB (by show X.2.2.1 + 1 + k ≤ X.1.2.2.2.1.cells; omega) (by show X.2.2.2.1 + 6 + 6 * k ≤ X.1.2.2.2.1.slots; omega) ht hu hw hv hx h
