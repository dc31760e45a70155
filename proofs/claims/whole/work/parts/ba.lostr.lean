/-! LOST: the law's call of its own lost -/
theorem wsS_lost : GoodIn gt (va_wsS RL 142 yL_lost (.codeWith yL_lost cL_lost 4 (some .int) [(0, 9, 12, 13)] :: gt)) := by
  intro w hw
  have hm : w ∈ gt := by
    unfold va_wsS at hw
    rcases List.mem_append.mp hw with h | h
    · simp only [List.mem_cons, List.not_mem_nil, or_false] at h
      rcases h with rfl | rfl | rfl
      · exact gt_of (List.mem_of_getElem? (i := 1214) (by decide +kernel)) rfl
      · exact gt_of (List.mem_of_getElem? (i := 1215) (by decide +kernel)) rfl
      · exact gt_of (List.mem_of_getElem? (i := 112) (by decide +kernel)) rfl
    · rcases List.mem_cons.mp h with rfl | h
      · exact gt_of (List.mem_of_getElem? (i := 1216) (by decide +kernel)) rfl
      · exact h
  exact ⟨hm, gt_good hm⟩
theorem lostR_of {X : XX} {G : GG} {ρ : Nat → Nat} (hX : Ok X G ρ cL_law 7 RL 400) (hl : X.1.2.1.stackTraces = false) (hZ : ZZ G X.1.2.2.2.2) : LostR X G ρ := by
  intro hr1 hr2 lv x p k m m2 t u w v ht hu hw hv h kJ
  intro H locs ls hP hS hlv
  obtain ⟨hx, hbb, hml, hown, hts, hk, hc, hs2, hfr, hlo⟩ := id hX
  have hr := vx_runSX (R := X.1.2.2.2.1) (p := X.1.1) (e := X.1.2.2.1) (below := X.2.1.2.2.1) (meth := X.2.1.2.2.2.1) (H := H) (locs := locs) (cells := X.2.2.1) (slots := X.2.2.2.1) (As := [Value.ref (ρ 0), Value.int p, Value.ref (ρ 125)]) (rest := []) (nL := 7) (Ts := gt) (own := RL) (g := F0 X.2.1.1 1139 ls [Value.ref (ρ 125), Value.int p, Value.ref (ρ 0)]) ⟨hx, hbb, hml, hown, hts⟩ (c_L_lost (G := G) (ρ := ρ) (t := t) (u := u) (w := w) (v := v) (y := x) hl h)
    (vx_cwSW (R := X.1.2.2.2.1) 3 hts wsS_lost rfl rfl rfl (by decide +kernel) ⟨by show 20 + 1 ≤ _; omega, by show 8 + (4 + 11) + 64 * 20 ≤ _; omega⟩)
    ⟨PcL_blind, fun U hU hWU => ⟨rfl, ⟨by rw [hU]; exact hP, Wk_moved hWU (by rw [hU]; exact hS.1) (fun a h1 h2 => by rw [hU]; exact hS.2.1 a h1 h2) hk⟩, ZZ_moved hWU (fun a h1 h2 => by rw [hU]; exact hS.2.1 a h1 h2) hZ⟩⟩ rfl rfl hlv.1 rfl (lv_room (by show 0 ≤ 8; omega)) dL_law_1139 ⟨hr1, hr2⟩
  refine vx_calli hr hS (fun q _ h => h) (fun q h => h) (fun q _ h => h) (fun E ce q9 u9 t9 H1 locs1 eH hA hpx hbx hsz hkp hS1 hce hv9 hcl => hpx.elim) (fun r u9 t9 H1 locs1 eH hA hpo hbo hsz hkp hS1 => ?_)
  have hpo' : r = k := hpo
  subst hpo'
  have hbo' : Wp G ρ 126 (RT t u w v x) m2 t9.heap := hbo
  rw [eH] at hbo'
  exact kJ H1 locs1 ls hbo' hS1 hlv
