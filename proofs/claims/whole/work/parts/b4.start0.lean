/-! MATH HALF: what holds at the start -/
def mS : Mm := sI mZ 80 2 (nI 4)
def S00 : Sv := (nI 0, fun _ => nI 0, fun _ => nI 0, fun _ => nI 0)
section Start0
variable {b i : Nat} {P : Pv}
theorem mS_0 (h : ¬ (b = 80 ∧ i = 2)) : gI mS b i = nI 0 := by
  unfold mS
  rw [g_ne h]
  rfl
theorem mS_z (h : ¬ (b = 80 ∧ i = 2)) : mS.1 b i = nI 0 := mS_0 h
theorem inv_start : f_X11_fresh0 mS = some mS ∧ Inv 3 10 18 22 0 mS := by
  obtain ⟨P, hP, hC, hR⟩ := ar_law (p := []) (f := []) (Or.inl ⟨rfl, rfl⟩) (Nat.zero_le _) (Nat.zero_le _)
  have eD : tD T00 = 0 := rfl
  have eB : tB T00 = 0 := rfl
  have eP : tP T00 = 4 := rfl
  have hW := t00_W.1
  have ok : okT T00 P 0 := ⟨hW, by omega, by rw [eD]; omega, by rw [eB]; exact Nat.zero_le _, hP⟩
  have w0 := WL_0 ok
  have w1 : WL1 (mkL2 T00 P 0) := WL_1 w0
  have w5 : WL5 (mkL2 T00 P 0) := WL_5
  have hi := is_T (T := T00) (P := P) (nd := 0)
  have yD0 : yD (mkL2 T00 P 0) = 0 := hi.1
  have yS0 : yS (mkL2 T00 P 0) = 0 := hi.2.1
  have w3 : WL3 (mkL2 T00 P 0) := WL_3 w0
  have yX0 : yX (mkL2 T00 P 0) = 0 := by
    rcases Nat.eq_zero_or_pos (yX (mkL2 T00 P 0)) with h | h
    · exact h
    · have := xd_pos w1 w3 h
      omega
  have nvx : ∀ x, ¬ vx (mkL2 T00 P 0) x := fun x hx => by
    have := hx.1
    omega
  have hF : isF (mkL2 T00 P 0) S00 := ⟨by rw [yD0]; rfl, fun _ _ => rfl, fun _ _ => rfl, fun _ _ => rfl⟩
  have hpR : pR (mkL2 T00 P 0) S00 mS = mS := by
    refine mm_ext (fun b i => ?_) rfl
    simp only [pR, S00]
    by_cases e : b = 117
    · subst e
      have z : mS.1 117 i = nI 0 := mS_z (by omega)
      rw [z]
      repeat' split
      all_goals rfl
    · rw [if_neg e]
  have hfr : f_X11_fresh0 mS = some mS := by
    have e := r_fresh (m := mS) (Λ := mkL2 T00 P 0) (F := S00) (by rw [yD0]; exact mS_0 (by omega)) w1 w3 hF
    have ew : wr 117 (fl 374 (mS.1 117)) mS = mS := by
      refine mm_ext (fun b i => ?_) rfl
      simp only [wr, fl]
      by_cases e : b = 117
      · subst e
        have z : mS.1 117 i = nI 0 := mS_z (by omega)
        rw [if_pos rfl, z]
        split <;> rfl
      · rw [if_neg e]
    rw [e, ew, hpR]
  have ct0 : ∀ (p : Nat → Prop) [DecidablePred p], ct p 0 = 0 := fun p _ => rfl
  have hRC : RelC (mkL2 T00 P 0) mS := by
    refine ⟨?_, ?_, ?_, fun k hk => absurd hk (by omega), fun k hk => absurd hk (by omega), fun k hk => absurd hk (by omega), fun k hk => absurd hk (by omega), fun k hk => absurd hk (by omega), fun k hk => absurd hk (by omega), fun x hx => absurd hx (nvx x), fun x hx => absurd hx (nvx x), fun x hx => absurd hx (nvx x), fun i hi => absurd hi (by omega), fun d hd => ?_, fun d hd => ?_, fun d hd => ?_⟩
    · rw [yD0]; exact mS_0 (by omega)
    · rw [yS0]; exact mS_0 (by omega)
    · rw [yX0]; exact mS_0 (by omega)
    · rw [(w5 d hd).1, yS0]; exact mS_0 (by omega)
    · rw [(w5 d hd).2.1, yS0]; exact mS_0 (by omega)
    · rw [(w5 d hd).2.2, yS0]; exact mS_0 (by omega)
  have hRR : RelR (mkL2 T00 P 0) mS := by
    refine ⟨?_, ?_, ?_, fun k hk => absurd hk (by omega), fun k hk => absurd hk (by omega), fun k hk => absurd hk (by omega), fun k hk => absurd hk (by omega), fun k hk => absurd hk (by omega), fun x hx => absurd hx (nvx x), fun x hx => absurd hx (nvx x), fun x hx => absurd hx (nvx x), fun i hi => absurd hi (by omega)⟩
    · rw [yD0]; exact mS_0 (by omega)
    · rw [yS0]; exact mS_0 (by omega)
    · rw [yX0]; exact mS_0 (by omega)
  refine ⟨hfr, Or.inl ⟨rfl, rfl⟩, Or.inl ⟨rfl, rfl⟩, ⟨mkL2 T00 P 0, T00, P, S00, 0, fun _ => 0, 0, 0, fun _ => 0, fun _ => 0, ⟨w1, WL_2 w0, w3, WL_4 w0, w5, WL_6 w0⟩, hW, by rw [eD, yD0], ⟨mS_0 (by omega), mS_0 (by omega), Or.inl ⟨mS_0 (by omega), eP⟩, fun b hb => absurd hb (by rw [eB]; omega), fun b hb => absurd hb (by rw [eB]; omega), fun b u hb => absurd hb (by rw [eB]; omega)⟩, ⟨mS_0 (by omega), mS_0 (by omega), ?_, fun b hb => absurd hb (by rw [eB]; omega), fun b hb => absurd hb (by rw [eB]; omega), fun b u hb => absurd hb (by rw [eB]; omega)⟩, hC 3 mS ⟨mS_0 (by omega), trivial⟩, hR mS (mS_0 (by omega)) (mS_0 (by omega)) trivial, hP, ⟨hRC, hRR, pS_fix (mS_0 (by omega)) (fun i => mS_0 (by omega)) (fun i => mS_0 (by omega)) (fun i => mS_0 (by omega)), hpR⟩, fr_WT w1 hF, ⟨Nat.zero_le _, mS_0 (by omega), mS_0 (by omega), fun i hi => absurd hi (by omega)⟩, ⟨Nat.zero_le _, by decide, mS_0 (by omega), mS_0 (by omega), mS_0 (by omega), fun i hi => absurd hi (by omega)⟩, fun i hi => ?_, ⟨0, Nat.zero_le _, mS_0 (by omega), mS_0 (by omega), fun e => absurd e (by decide)⟩, ⟨0, Nat.zero_le _, mS_0 (by omega), mS_0 (by omega), fun e => absurd e (by decide)⟩⟩, (0, fun _ => 0), ⟨mS_0 (by omega), fun i hi => absurd hi (Nat.not_lt_zero _)⟩, ⟨mS_0 (by omega), fun i hi => absurd hi (Nat.not_lt_zero _)⟩, Nat.zero_le _, fun i hi => absurd hi (Nat.not_lt_zero _)⟩
  · rw [eP]; exact g_eq
  · rw [mS_0 (by omega)]; decide
/-- all calls of every script -/
theorem pure_all (L : Nat) (xs : Nat → Int32) (hL : L ≤ 3584) : ∃ m0, stI mZ 80 (ix (2 : Int32)) (4 : Int32) (fun m1 => f_X11_fresh0 m1) = some m0 ∧ f_law L xs 513 3 10 18 22 (some 10) 0 m0 = some () := by
  obtain ⟨h1, h2⟩ := inv_start
  refine ⟨mS, ?_, ?_⟩
  · rw [q_stI]
    exact h1
  · exact lw_all hL 513 0 0 3 10 18 22 (some 10) mS (Nat.zero_le _) (by omega) (by omega) h2
end Start0
