/-! LOST: the contracts of the two methods, and the law's call -/
section LtD
variable {G : GG} {ρ : Nat → Nat} {m m1 mE : Mm} {l : Launch} {t u w v : Nat} {y : Option Nat} {p : Int32}
theorem c_C_lost (hl : l.stackTraces = false) {o : Option Int32} (h : f_C_lost p m = some (o, mE)) : vx_Met l yX10_lost (.code yX10_lost cX10_lost 3 (some .int) :: gt) (rmd 10 1 6) (PcL G ρ (RT t u w v y) [.ref 0, .int p] m) (QiL G ρ (RT t u w v y) mE (fun r => o = some r)) (XcL G ρ (RT t u w v y) mE (o = none)) 1 6 (GA G) := by
  refine vx_ofW (cc := cX10_lost) (maxL := 3) (ret := some .int) (by decide) rfl ?_
  intro p' e s mi av below meth c s₁ B hml hex hPc
  obtain ⟨rfl, ⟨hW, hk⟩, hz⟩ := hPc
  have hts := atoms_spec (ws := .code yX10_lost cX10_lost 3 (some .int) :: gt) B.pre
  have hown2 : s.vm.findClass RX10 = some mi.cls := findClass_of_methodNamed B.named
  rw [lg_entry_eq]
  have hlv := lv_entry ([Value.ref 0, Value.int p].map (mv ρ)) (n := 3) (by show 2 ≤ 3; omega)
  rw [← lv_args_mv] at hlv
  have hX : Ok ((p', l, e, (headSpec (.code yX10_lost cX10_lost 3 (some .int) :: gt) (rmd 10 1 6)).room, s), (mi, ([Value.ref 0, Value.int p].map (mv ρ)).toArray, below, meth, c), (0, 0, vx_MQ below (QiL G ρ (RT t u w v y) mE (fun r => o = some r)) (XcL G ρ (RT t u w v y) mE (o = none)) ([Value.ref 0, Value.int p].map (mv ρ)).toArray s 1 6 (GA G))) G ρ cX10_lost 3 RX10 10 :=
    ⟨B.exec, B.bytes, hml, hown2, fun w h => hts w (List.mem_cons_of_mem _ h), hk, Nat.zero_le _, Nat.zero_le _, Nat.le_refl _, Nat.le_refl _⟩
  have hJ : J ((p', l, e, (headSpec (.code yX10_lost cX10_lost 3 (some .int) :: gt) (rmd 10 1 6)).room, s), (mi, ([Value.ref 0, Value.int p].map (mv ρ)).toArray, below, meth, c), (0, 0, vx_MQ below (QiL G ρ (RT t u w v y) mE (fun r => o = some r)) (XcL G ρ (RT t u w v y) mE (o = none)) ([Value.ref 0, Value.int p].map (mv ρ)).toArray s 1 6 (GA G))) G ρ 126 3 0 [(0, .ref 0), (1, .int p)] [] (RT t u w v y) m := by
    unfold f_C_lost at h
    refine J_iload_n hX dX10_lost_0 rfl 1 rfl ?_
    refine J_if_ge hX 8 dX10_lost_1 (by decide) h (fun c h => ?_) (fun c h => ?_)
    · refine J_iconst hX (-1 : Int32) dX10_lost_4 ic_m1 ?_
      refine J_goto hX 16 dX10_lost_5 (by decide) ?_
      exact t_lost16 hX (Nat.le_refl _) hl hz hex rfl rfl (Nat.le_refl _) (Nat.le_refl _) rfl B.returns B.notSynchronized (by rw [if_pos rfl]; exact h)
    · refine J_aload_n hX dX10_lost_8 rfl 0 rfl ?_
      refine J_getR hX dX10_lost_9 fl_RX10_62 (ltn ltc_0 (Nat.le_refl _)) lo_0 rfl (rt_0_8 _ _ _ _ _) ?_
      refine J_iload_n hX dX10_lost_12 rfl 1 rfl ?_
      obtain ⟨r2, m2, h0, h⟩ := bd2_some h
      refine J_callVi (As := [.int p]) (st := []) hX dX10_lost_13 cw_RX10_294 (by omega) (c_X6_lostAt (Nat.le_refl _) p_isSt_54 h0) (ltn ltc_54 (Nat.le_refl _)) lo_54 (by decide) rfl rfl rfl (Nat.le_of_ble_eq_true rfl) ?_
      exact t_lost16 hX (Nat.le_refl _) hl hz hex rfl rfl (Nat.le_refl _) (Nat.le_refl _) rfl B.returns B.notSynchronized h
  exact hJ s.heap [] _ hW va_S.rf hlv
theorem fL_of {k : Int32} (h : f_L_lost p m = some (k, mE)) : ∃ o m1, f_C_lost p m = some (o, m1) ∧ ((o = none ∧ k = 1 ∧ mE = m1) ∨ ∃ r, o = some r ∧ k = 0 ∧ mE = sL m1 125 0 r.toInt64) := by
  unfold f_L_lost at h
  unfold f_C_lost
  by_cases hp : p < 0
  · rw [if_pos hp] at h ⊢
    cases h
    exact ⟨none, _, rfl, Or.inl ⟨rfl, rfl, rfl⟩⟩
  · rw [if_neg hp] at h ⊢
    obtain ⟨r, m1, h0, h⟩ := bd2_some h
    rw [h0, q_bd2]
    by_cases hr : r = -1
    · rw [if_pos hr] at h ⊢
      cases h
      exact ⟨none, _, rfl, Or.inl ⟨rfl, rfl, rfl⟩⟩
    · rw [if_neg hr] at h ⊢
      cases h
      exact ⟨_, _, rfl, Or.inr ⟨_, rfl, rfl, rfl⟩⟩
theorem J_lastore0 {X : XX} {n nL pc d : Nat} {cc : ByteArray} {own : String} {lv : List (Nat × Value)} {st : List Value} {rt : Rt} (hX : Ok X G ρ cc nL own d) {a len : Nat} {i : Int32} {x : Int64} (hd : decode cc pc = .ok (.lastore, 1)) (ha : a < n) (hla : lay a = (15, len)) (hi : inb i len = true) (k : J X G ρ n nL (pc + 1) lv st rt (sL m a (ix i) x)) : J X G ρ n nL pc lv (.long x :: .int i :: .ref a :: st) rt m := by
  intro H locs ls hP hS hl
  refine va_last hX.1 hX.2.1 hX.2.2.2.2.2.1.1 hP.1 hP.2 hS a 4 (by rw [wl_get _ _ _ _ ha, cE_long hla] <;> rfl) rfl (inb_in hi) hd (fun H1 locs1 p1 d1 s1 => ?_)
  have hset : (wl G ρ rt m n).set a (ρ a, .inl (G.2.1 4, len, .inr (.inl (vp_updL (m.2 a) i.toNatClampNeg x)))) = wl G ρ rt (sL m a (ix i) x) n := wl_set (by
    rw [cE_long hla]
    congr 5
    funext j
    simp only [sL, vp_updL]
    by_cases h : j = i.toNatClampNeg
    · rw [if_pos h, if_pos ⟨trivial, h⟩]
    · rw [if_neg h, if_neg (fun e => h e.2)]) (fun b hb => cE_sL_ne hb)
  rw [hset] at p1 d1
  exact k H1 locs1 ls ⟨p1, d1⟩ s1 hl
/-- the law's own lost: it catches -/
theorem c_L_lost (hl : l.stackTraces = false) {k : Int32} (h : f_L_lost p m = some (k, mE)) : vx_Met l yL_lost (.codeWith yL_lost cL_lost 4 (some .int) [(0, 9, 12, 13)] :: gt) (rmd 20 1 6) (PcL G ρ (RT t u w v y) [.ref 0, .int p, .ref 125] m) (QiL G ρ (RT t u w v y) mE (fun r => r = k)) (XcL G ρ (RT t u w v y) mE False) 1 6 (GA G) := by
  obtain ⟨o, m1, hC, hcs⟩ := fL_of h
  refine vx_ofWH (cc := cL_lost) (maxL := 4) (ret := some .int) (hh := [(0, 9, 12, 13)]) (by decide) rfl ?_
  intro p' e s mi av below meth c s₁ B hml hPc
  obtain ⟨rfl, ⟨hW, hk⟩, hz⟩ := hPc
  have hts := atoms_spec (ws := .codeWith yL_lost cL_lost 4 (some .int) [(0, 9, 12, 13)] :: gt) B.pre
  have hown2 : s.vm.findClass RL = some mi.cls := findClass_of_methodNamed B.named
  have htab := vx_table (x := yL_lost) B (hts _ List.mem_cons_self)
  rw [lg_entry_eq]
  have hlv := lv_entry ([Value.ref 0, Value.int p, Value.ref 125].map (mv ρ)) (n := 4) (by show 3 ≤ 4; omega)
  rw [← lv_args_mv] at hlv
  have hX : Ok ((p', l, e, (headSpec (.codeWith yL_lost cL_lost 4 (some .int) [(0, 9, 12, 13)] :: gt) (rmd 20 1 6)).room, s), (mi, ([Value.ref 0, Value.int p, Value.ref 125].map (mv ρ)).toArray, below, meth, c), (0, 0, vx_MQ below (QiL G ρ (RT t u w v y) mE (fun r => r = k)) (XcL G ρ (RT t u w v y) mE False) ([Value.ref 0, Value.int p, Value.ref 125].map (mv ρ)).toArray s 1 6 (GA G))) G ρ cL_lost 4 RL 20 :=
    ⟨B.exec, B.bytes, hml, hown2, fun w h => hts w (List.mem_cons_of_mem _ h), hk, Nat.zero_le _, Nat.zero_le _, Nat.le_refl _, Nat.le_refl _⟩
  have hX1 : Ok (bump ((p', l, e, (headSpec (.codeWith yL_lost cL_lost 4 (some .int) [(0, 9, 12, 13)] :: gt) (rmd 20 1 6)).room, s), (mi, ([Value.ref 0, Value.int p, Value.ref 125].map (mv ρ)).toArray, below, meth, c), (0, 0, vx_MQ below (QiL G ρ (RT t u w v y) mE (fun r => r = k)) (XcL G ρ (RT t u w v y) mE False) ([Value.ref 0, Value.int p, Value.ref 125].map (mv ρ)).toArray s 1 6 (GA G))) 1 6) G ρ cL_lost 4 RL 20 := Ok_bump hX (fun b hb => rfl) (Nat.le_refl _) (Nat.le_refl _)
  have hJ : J ((p', l, e, (headSpec (.codeWith yL_lost cL_lost 4 (some .int) [(0, 9, 12, 13)] :: gt) (rmd 20 1 6)).room, s), (mi, ([Value.ref 0, Value.int p, Value.ref 125].map (mv ρ)).toArray, below, meth, c), (0, 0, vx_MQ below (QiL G ρ (RT t u w v y) mE (fun r => r = k)) (XcL G ρ (RT t u w v y) mE False) ([Value.ref 0, Value.int p, Value.ref 125].map (mv ρ)).toArray s 1 6 (GA G))) G ρ 126 4 0 [(0, .ref 0), (1, .int p), (2, .ref 125)] [] (RT t u w v y) m := by
    refine J_aload_n hX dL_lost_0 rfl 2 rfl ?_
    refine J_iconst hX (0 : Int32) dL_lost_1 ic_0 ?_
    refine J_aload_n hX dL_lost_2 rfl 0 rfl ?_
    refine J_iload_n hX dL_lost_3 rfl 1 rfl ?_
    intro H locs ls hP hS hl2
    obtain ⟨hx, hbb, hml', hown, hts', hk', hc, hs2, hfr, hlo⟩ := id hX
    have hrec := va_recv (s := s) hk.1 hP.1 (ci := 9) rfl (q0 := 0) (a := ρ 0) (fs := flds (ftab 9) ρ (RT t u w v y) m 0) (by rw [wl_get _ _ _ _ (by omega), cE_obj lo_0 (by decide)])
    have hr := vx_runV (R := (headSpec (.codeWith yL_lost cL_lost 4 (some .int) [(0, 9, 12, 13)] :: gt) (rmd 20 1 6)).room) (p := p') (e := e) (below := below) (meth := meth) (H := H) (locs := locs) (cells := 0) (slots := 0) (As := [Value.int p]) (rest := [Value.int 0, Value.ref (ρ 125)]) (b := ρ 0) (C := RX10) (nL := 4) (Ts := gt) (own := RL) (g := F0 mi 4 ls [Value.int p, Value.ref (ρ 0), Value.int 0, Value.ref (ρ 125)]) ⟨hx, hbb, hml', hown, hts'⟩ (c_C_lost (G := G) (ρ := ρ) (t := t) (u := u) (w := w) (v := v) (y := y) hl hC)
      (cwV 1 hts' (gt_goodIn2 cw_RL_7.1.2 cw_RL_7.1.1) rfl rfl rfl cw_RL_7.2.1 ⟨by show 10 + 1 ≤ 20; omega, by show 8 + (3 + 11) + 64 * 10 ≤ 64 * 20; omega⟩)
      ⟨PcL_blind, hrec, fun U hU hWU => ⟨rfl, ⟨by rw [hU]; exact hP, Wk_moved hWU (by rw [hU]; exact hS.1) (fun a h1 h2 => by rw [hU]; exact hS.2.1 a h1 h2) hk⟩, ZZ_moved hWU (fun a h1 h2 => by rw [hU]; exact hS.2.1 a h1 h2) hz⟩⟩ rfl rfl hl2.1 rfl (lv_room (by show 1 + (1 + 0) ≤ 8; omega)) dL_lost_4 ⟨Nat.le_refl _, Nat.le_refl _⟩
    refine vx_calli hr hS (fun q _ h => h) (fun q h => h) (fun q _ h => h) (fun E ce q9 u9 t9 H1 locs1 eH hA hpx hbx hsz hkp hS1 hce hv9 hcl => ?_) (fun r u9 t9 H1 locs1 eH hA hpo hbo hsz hkp hS1 => ?_)
    · -- it threw: caught here
      obtain ⟨hE, hWp⟩ := hbx
      subst hE
      rw [eH] at hWp
      rcases hcs with ⟨ho, hk1, hm⟩ | ⟨r, ho, hk1, hm⟩
      · subst hm
        subst hk1
        refine vx_catch (own := RL) (name := nsE) (E := nsE) (ce := ce) hown [] ⟨0, 9, 12, 13⟩ [] htab (fun z hz => nomatch hz) (by decide) (by decide) (hts' _ (gt_of (List.mem_of_getElem? (i := 1217) (by decide +kernel)) rfl)) ?_ hce hv9 hcl ?_
        · have hin : Cond.castable nsE nsE ∈ xT := by
            rw [xT_tab]
            exact List.mem_filterMap.mpr ⟨1228, by decide, by decide +kernel⟩
          exact va_tabs (xT_on hin).1 rfl (hz.2.2 _ hin)
        · refine lv_astore_n (x := q9) (lv' := (3, Value.ref q9) :: ([(0, Value.ref 0), (1, Value.int p), (2, Value.ref 125)].map (mq ρ)).filter (fun q => !(q.1 == 3) && !(q.1 + 1 == 3 && q.2.category == 2))) hx hbb dL_lost_12 rfl hl2 (by omega) rfl (fun ls' hl3 => ?_)
          refine lv_iconst hx hbb (v := 1) dL_lost_13 (by decide) ?_
          refine vx_ret (W.widen (Nat.le_refl _) (Nat.le_refl _) ?_)
          exact W.zret hx hbb B.returns rfl (fun t' ht' hW' => ⟨⟨1, (), rfl, rfl, by show Wp G ρ 126 (RT t u w v y) mE t'.heap; rw [ht']; exact hWp⟩, hS1.F ht'⟩) hS1.2.2 dL_lost_14 B.notSynchronized
      · rw [ho] at hpx
        cases hpx
    · -- it returned
      rcases hcs with ⟨ho, hk1, hm⟩ | ⟨r', ho, hk1, hm⟩
      · rw [ho] at hpo
        cases hpo
      · rw [ho] at hpo
        cases hpo
        rw [eH] at hbo
        have hj : J (bump ((p', l, e, (headSpec (.codeWith yL_lost cL_lost 4 (some .int) [(0, 9, 12, 13)] :: gt) (rmd 20 1 6)).room, s), (mi, ([Value.ref 0, Value.int p, Value.ref 125].map (mv ρ)).toArray, below, meth, c), (0, 0, vx_MQ below (QiL G ρ (RT t u w v y) mE (fun r => r = k)) (XcL G ρ (RT t u w v y) mE False) ([Value.ref 0, Value.int p, Value.ref 125].map (mv ρ)).toArray s 1 6 (GA G))) 1 6) G ρ 126 4 7 [(0, .ref 0), (1, .int p), (2, .ref 125)] [.int r, .int 0, .ref 125] (RT t u w v y) m1 := by
          refine J_i2l hX1 dL_lost_7 ?_
          refine J_lastore0 (len := 1) hX1 dL_lost_8 (by omega) (by decide +kernel) (by decide) ?_
          refine J_goto hX1 15 dL_lost_9 (by decide) ?_
          refine J_iconst hX1 (0 : Int32) dL_lost_15 ic_0 ?_
          exact J_iretX hX1 dL_lost_16 rfl (Nat.le_refl _) (Nat.le_refl _) B.returns B.notSynchronized hk1.symm hm.symm
        exact hj H1 locs1 ls hbo hS1 hl2
  exact hJ s.heap [] _ hW va_S.rf hlv
end LtD
