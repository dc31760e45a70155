/-! MATH HALF: the call array, both -/
section Arr3
variable {q : Tq} {a b c d e i j k n s u x sp D B t w v A : Nat} {m m1 m2 m3 mc mc2 mr mr2 mx : Mm} {y z : Int32} {p f : List Int32} {T Λ : Lv} {P : Pv} {S : Sv}
theorem ar_law (hG : LwG p f) (hp : p.length ≤ 1000) (hf : f.length ≤ 1000) : ∃ P : Pv, (∀ k z d b, 2 ≤ z → z ≤ 5 → P k z d b < z) ∧ (∀ u m, LwC u p m → LawC u P m) ∧ ∀ m, gI m 84 0 = nI 0 → gI m 85 0 = nI f.length → Seg 86 0 f m → LawR P m := by
  rcases hG with ⟨rfl, rfl⟩ | ⟨hG, h1, h2⟩
  · obtain ⟨P, a1, a2, a3⟩ := law_no
    refine ⟨P, fun k z d b h _ => a1 k z d b h, fun u m h => a2 u m h.1, fun m e1 e2 _ => a3 m ?_⟩
    rw [e1, e2]; decide
  · obtain ⟨P, a1, a2, a3⟩ := law_of hG
    refine ⟨P, fun k z d b h _ => a1 k z d b h, fun u m h => a2 u m h.1 hp h1 h.2, fun m e1 e2 e3 => a3 m 0 e1 (by rw [Nat.zero_add]; exact e2) (by omega) h2 e3⟩
theorem ar_ToC (h : TdC u T sp m) (hP : tP T = (if sp = 0 then 4 else sp)) : ToC u T m := by
  obtain ⟨h1, h2, h3, h4, h5, h6⟩ := h
  refine ⟨h1, h3, ?_, h4, h5, h6⟩
  by_cases e : sp = 0
  · rw [if_pos e] at hP
    left
    exact ⟨by rw [h2, e], hP⟩
  · rw [if_neg e] at hP
    right
    rw [h2, hP]
theorem fr_WT (hW : WL1 Λ) (h : isF Λ S) : WT Λ B S := by
  obtain ⟨f1, f2, f3, f4⟩ := h
  have w2 := hW.2.1
  refine ⟨fun x hx => Or.inl (f2 x (vx_200 hW hx)), fun k u v hk hu hv e1 e2 => ?_, fun d h1 h2 => f4 d h2, fun d hd => ⟨0, Nat.zero_le _, f4 d hd⟩⟩
  have hz := (hW.2.2.2.1 k hk).2.1
  rw [f2 _ (by omega)] at e1
  exact absurd e1 (by decide)
theorem a_array (htu : (t = 3 ∧ u = 10) ∨ (t = 10 ∧ u = 3)) (hw : w = 18 ∨ w = 22) (hC : TC q m) (hR : TR q m) (hq : TW q) (hB : SnB m) : ∃ F m1 m2, F < 100000 ∧ f_X10_array t u w v m = some (nI F, m1) ∧ f_X11_array m1 = some (nI F, m2) ∧ gI m2 1 1 = nI 0 ∧ gI m2 78 1 = nI 0 ∧ (F ≠ 0 → ∀ b i, nt t w b i → gI m2 b i = gI m b i) ∧ (F = 0 → ∃ Λ T P S, (WL1 Λ ∧ WL2 Λ ∧ WL3 Λ ∧ WL4 Λ ∧ WL5 Λ ∧ WL6 Λ) ∧ WTo T ∧ tD T = yD Λ ∧ ToC u T m2 ∧ ToR T m2 ∧ LawC u P m2 ∧ LawR P m2 ∧ (∀ k z d b, 2 ≤ z → z ≤ 5 → P k z d b < z) ∧ Hq Λ S m2 ∧ WT Λ 0 S ∧ gI m2 w 4 = nI 0 ∧ gI m2 110 0 = nI 0 ∧ gI m2 54 5 = nI 0 ∧ gI m2 54 7 = nI 0 ∧ gI m2 114 0 = nI 0 ∧ gI m2 75 0 = nI 0 ∧ gI m2 75 1 = nI 0 ∧ gI m2 121 0 = nI 0 ∧ gI m2 121 1 = nI 0 ∧ SnB m2) := by
  have hu : u = 3 ∨ u = 10 := by omega
  have hq1 := hq.1
  have hs0 := (skT_le (q := q) (p := 0) (Nat.zero_le _)).2
  have hfu : q.1 - skT q 0 < FU := by show _ < 4096; omega
  obtain ⟨ma, c1, c2, c3, c4, c5⟩ := ar_C0 hu hC hq
  -- any reference beside it, to see what the class does
  have start : ∀ m', TR q m' → ∃ md, f_X11_readsAll m' = f_X11_readsAll_L65 FU md ∧ gI md 78 1 = nI 0 ∧ (∀ b i, ¬ (b = 78 ∧ (i = 1 ∨ i = 3)) → ¬ (b = 78 ∧ ((4 ≤ i ∧ i ≤ 9) ∨ i = 17 ∨ i = 18 ∨ i = 31)) → ¬ (b = 80 ∧ 3 ≤ i) → ¬ ((b = 84 ∨ b = 85) ∧ i = 1) → md.1 b i = m'.1 b i) ∧ (ArF u ma md (f_X0_fill_L21 u FU (nI 0) ma) (f_X11_readsAll_L65 FU md) ∨ ArE q u ma md (f_X0_fill_L21 u FU (nI 0) ma) (f_X11_readsAll_L65 FU md)) := fun m' h' => by
    obtain ⟨md, r1, r2, r3, r4, r5, r6, r7⟩ := ar_R0 h' hq
    exact ⟨md, r1, r5, r6, arL hq hu (q.1 - skT q 0) T00 0 [] [] (skT q 0) ma md 0 FU FU (Nat.le_refl _) hfu hfu (Nat.zero_le _) ⟨hs0, c2, r2, c3, r3, c4, r4, t00_W, Or.inl ⟨rfl, rfl⟩, Nat.zero_le _, Nat.zero_le _⟩⟩
  obtain ⟨md0, _, _, _, s4⟩ := start m hR
  rcases s4 with ⟨F, mc2, mr0, a1, a2, a3, a4, _⟩ | ⟨T, sp, p, f, a, mc2, mr0, a1, a2, a3, a4, a5⟩
  · -- a fault
    have nF : ¬ nI F = 0 := fun e => by
      have := (q_eq (b := 0) (by omega) (by omega)).mp e
      omega
    have hcls : f_X10_array t u w v m = some (nI F, sI mc2 1 1 (nI 0)) := by
      unfold f_X10_array
      rw [c1, a3, q_bd2, q_stI, if_neg nF]
      rfl
    have g1 : ∀ b i, ¬ (b = 1 ∧ 1 ≤ i ∧ i ≤ 6) → ¬ (u ≤ b ∧ b ≤ u + 5) → gI (sI mc2 1 1 (nI 0)) b i = gI m b i := fun b i k1 k2 => by
      rw [g_ne (by omega)]
      exact (show gI mc2 b i = _ from a4.2 b i (by omega) k2).trans (c5.2 b i (by omega) k2)
    have hR1 : TR q (th (sI mc2 1 1 (nI 0))) := ⟨by
      have e : gI (th (sI mc2 1 1 (nI 0))) 78 1 = gI (sI mc2 1 1 (nI 0)) 78 1 := g_ne (by omega)
      rw [e, g1 _ _ (by omega) (by omega)]; exact hR.1, fun i hi => by
      have e : gI (th (sI mc2 1 1 (nI 0))) 79 i = gI (sI mc2 1 1 (nI 0)) 79 i := g_ne (by omega)
      rw [e, g1 _ _ (by omega) (by omega)]; exact hR.2 i hi⟩
    obtain ⟨md, r1, r2, r3, r4⟩ := start _ hR1
    rcases r4 with ⟨F2, mc3, mr2, b1, b2, b3, b4, b5, b6, b7⟩ | ⟨_, _, _, _, _, mc3, mr3, b1, _⟩
    · have eF : nI F2 = nI F := by
        have := b3.symm.trans a3
        exact congrArg Prod.fst (Option.some.inj this)
      have hg : ∀ b i, ¬ (b = 78 ∧ (i = 1 ∨ i = 3 ∨ i = 0)) → ¬ (b = 78 ∧ ((4 ≤ i ∧ i ≤ 9) ∨ i = 17 ∨ i = 18 ∨ i = 31)) → ¬ (b = 80 ∧ 3 ≤ i) → ¬ ((b = 81 ∨ b = 82) ∧ 6 ≤ i) → ¬ (b = 83 ∧ 30 ≤ i) → ¬ ((b = 84 ∨ b = 85) ∧ i = 1) → ¬ (b = 86 ∧ 1000 ≤ i) → ¬ (b = 87 ∨ b = 88) → gI mr2 b i = gI (sI mc2 1 1 (nI 0)) b i := fun b i k0 k1 k2 k3 k4 k5 k6 k7 => by
        have e1 : gI mr2 b i = gI md b i := b7.2 b i k1 k2 k3 k4 k5 k6 k7
        have e2 : gI md b i = gI (th (sI mc2 1 1 (nI 0))) b i := r3 b i (by omega) k1 k2 k5
        rw [e1, e2]
        exact g_ne (by omega)
      refine ⟨F, sI mc2 1 1 (nI 0), mr2, a2, hcls, ?_, ?_, ?_, fun _ b i hb => ?_, fun h => by omega⟩
      · unfold f_X11_array
        rw [q_stI, q_th, r1, b5, q_bd2, if_pos (by rfl), b6, eF]
      · rw [hg _ _ (by omega) (by omega) (by omega) (by omega) (by omega) (by omega) (by omega) (by omega), g_eq]
      · rw [show gI mr2 78 1 = gI md 78 1 from b7.2 78 1 (by omega) (by omega) (by omega) (by omega) (by omega) (by omega) (by omega)]
        exact r2
      · unfold nt at hb
        rw [hg _ _ (by omega) (by omega) (by omega) (by omega) (by omega) (by omega) (by omega) (by omega), g1 _ _ (by omega) (by omega)]
    · exfalso
      have := b1.symm.trans a3
      exact nF (congrArg Prod.fst (Option.some.inj this)).symm
  · -- all read
    have key : ∀ T sp p f a mr', ArS q u T sp p f a mc2 mr' → ∃ P : Pv, (∀ k z d b, 2 ≤ z → z ≤ 5 → P k z d b < z) ∧ (∀ m, gI m 84 0 = nI 0 → gI m 85 0 = nI f.length → Seg 86 0 f m → LawR P m) ∧ ∃ m1 S, f_X10_array t u w v m = some (nI 0, m1) ∧ RelC (mkL2 T P (tD T)) m1 ∧ isF (mkL2 T P (tD T)) S ∧ pS 54 S m1 = m1 ∧ gI m1 54 5 = nI 0 ∧ gI m1 54 7 = nI 0 ∧ gI m1 w 4 = nI 0 ∧ gI m1 75 0 = nI 0 ∧ gI m1 75 1 = nI 0 ∧ gI m1 1 1 = nI 0 ∧ ToC u T m1 ∧ LawC u P m1 ∧ (∀ b i, 78 ≤ b → m1.1 b i = m.1 b i) ∧ m1.2 = m.2 := fun T sp p f a mr' h => by
      obtain ⟨ha, _, _, hTC, _, hLC, _, ⟨hW, hS, hP, hsp⟩, hG, hp, hf⟩ := h
      obtain ⟨P, p1, p2, p3⟩ := ar_law hG (by omega) (by omega)
      refine ⟨P, p1, p3, ar_C1 hu hw (by rw [c1]; exact a1) (frU_t c5 a4) (ToC_gg hW (fun b i k1 k2 => g_ne (by omega)) (ar_ToC hTC hP)) (LawC_g (fun b i k1 => g_ne (by omega)) (p2 u mc2 hLC)) hW hS p1⟩
    obtain ⟨_, _, _, m1, _, x1, _, _, _, _, _, _, _, _, _, _, _, x13, _⟩ := key T sp p f a mr0 a3
    have hR1 : TR q (th m1) := ⟨by
      have e : gI (th m1) 78 1 = gI m1 78 1 := g_ne (by omega)
      rw [e]
      exact (x13 78 1 (by omega)).trans hR.1, fun i hi => by
      have e : gI (th m1) 79 i = gI m1 79 i := g_ne (by omega)
      rw [e]
      exact (x13 79 i (by omega)).trans (hR.2 i hi)⟩
    obtain ⟨md, r1, r2, r3, r4⟩ := start _ hR1
    rcases r4 with ⟨F2, mc3, mr2, b1, b2, b3, _⟩ | ⟨T2, sp2, p2, f2, a2', mc3, mr2, b1, b2, b3, b4, b5⟩
    · exfalso
      have := b3.symm.trans a1
      have e := congrArg Prod.fst (Option.some.inj this)
      have := (q_eq (b := 0) (by omega) (by omega)).mp e
      omega
    · have emc : mc3 = mc2 := congrArg Prod.snd (Option.some.inj (b1.symm.trans a1))
      subst emc
      obtain ⟨P, hP, hLR, m1', S, y1, y2, y3, y4, y5, y6, y7, y8, y9, y10, y11, y12, y13, y14⟩ := key T2 sp2 p2 f2 a2' mr2 b3
      have em1 : m1' = m1 := congrArg Prod.snd (Option.some.inj (y1.symm.trans x1))
      subst em1
      obtain ⟨ha, _, _, _, hTR, _, hLwR, ⟨hW, hS, _, _⟩, _, hp, hf⟩ := b3
      obtain ⟨m2, z1, z2, z3, z4, z5, z6, z7, z8, z9, z10, z11, z12⟩ := ar_R1 hTR hLwR (by omega) hLR hW hS hP y3
      have ok : okT T2 P (tD T2) := ⟨hW, hW.2.1, Nat.le_refl _, hS, hP⟩
      have w0 := WL_0 ok
      have w1 : WL1 (mkL2 T2 P (tD T2)) := WL_1 w0
      have gc : ∀ b i, b < 78 → gI m2 b i = gI m1' b i := fun b i hb => by
        rw [z10 b i hb]
        have e1 : gI mr2 b i = gI md b i := b5.2 b i (by omega) (by omega) (by omega) (by omega) (by omega) (by omega) (by omega)
        have e2 : gI md b i = gI (th m1') b i := r3 b i (by omega) (by omega) (by omega) (by omega)
        rw [e1, e2]
        exact g_ne (by omega)
      refine ⟨0, m1', m2, by omega, y1, ?_, ?_, ?_, fun h => absurd rfl h, fun _ => ⟨mkL2 T2 P (tD T2), T2, P, S, ⟨w1, WL_2 w0, WL_3 w0, WL_4 w0, WL_5, WL_6 w0⟩, hW, (is_T (T := T2) (P := P) (nd := tD T2)).1.symm, ToC_gg hW (fun b i k1 k2 => gc _ _ (by omega)) y11, z4, LawC_g (fun b i k1 => gc _ _ (by omega)) y12, z5, hP, ⟨RelC_g (fun b i k1 k2 => gc _ _ (by omega)) y2, z2, ?_, z3⟩, fr_WT w1 y3, (gc _ _ (by omega)).trans y7, z6, (gc _ _ (by omega)).trans y5, (gc _ _ (by omega)).trans y6, z7, (gc _ _ (by omega)).trans y8, (gc _ _ (by omega)).trans y9, z8, z9, fun i hi => ?_⟩⟩
      · unfold f_X11_array
        rw [q_stI, q_th, r1, b2, q_bd2, if_neg (by decide)]
        exact z1
      · exact (gc _ _ (by omega)).trans y10
      · rw [z11, show gI mr2 78 1 = gI md 78 1 from b5.2 78 1 (by omega) (by omega) (by omega) (by omega) (by omega) (by omega) (by omega)]
        exact r2
      · obtain ⟨u1, u2, u3, u4⟩ := pS_un y4
        exact pS_fix ((gc _ _ (by omega)).trans u1) (fun i => (gc _ _ (by omega)).trans (u2 i)) (fun i => (gc _ _ (by omega)).trans (u3 i)) (fun i => (gc _ _ (by omega)).trans (u4 i))
      · have e1 : gI mr2 116 i = gI md 116 i := b5.2 116 i (by omega) (by omega) (by omega) (by omega) (by omega) (by omega) (by omega)
        have e2 : gI md 116 i = gI (th m1') 116 i := r3 116 i (by omega) (by omega) (by omega) (by omega)
        have e3 : gI (th m1') 116 i = gI m1' 116 i := g_ne (by omega)
        have e4 : gI m1' 116 i = gI m 116 i := y13 116 i (by omega)
        rw [z12, e1, e2, e3, e4]
        exact hB i hi
end Arr3
