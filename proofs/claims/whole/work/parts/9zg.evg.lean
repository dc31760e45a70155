/-! MATH HALF: codes of both sides that give one value, by the levels of the language -/
def G4 (r : Nat) (p f : List Int32) : Prop := ∀ x1 x2 x3 x4, ∃ v, EvC x1 x2 x3 x4 (17 - 4 * r) p v ∧ ∀ m d0, EnvR x1 x2 x3 x4 m → UwN 97 m r d0 → RnR f r d0 m (TmQ m r d0 v)
def G3 (r : Nat) (p f : List Int32) : Prop := ∀ x1 x2 x3 x4, ∃ v, EvC x1 x2 x3 x4 (18 - 4 * r) p v ∧ ∀ m, EnvR x1 x2 x3 x4 m → UwN 97 m r r → gI m 96 r = 0 → RnR f r r m (fun m2 => gI m2 95 r = v ∧ ∀ b, (89 ≤ b ∧ b ≤ 94) ∨ b = 97 → gI m2 b r = gI m b r)
def G2 (r : Nat) (p f : List Int32) : Prop := ∀ x1 x2 x3 x4, ∃ v, EvC x1 x2 x3 x4 (19 - 4 * r) p v ∧ ∀ m, EnvR x1 x2 x3 x4 m → UwN 97 m r r → gI m 96 r = 0 → gI m 93 r = 0 → gI m 94 r = 20 → RnR f r r m (fun m2 => ptI m2 r = v ∧ ∀ b, (89 ≤ b ∧ b ≤ 92) ∨ b = 97 → gI m2 b r = gI m b r)
def G1 (r : Nat) (p f : List Int32) : Prop := ∀ x1 x2 x3 x4, ∃ v, EvC x1 x2 x3 x4 (20 - 4 * r) p v ∧ ∀ m, EnvR x1 x2 x3 x4 m → UwN 97 m r r → gI m 96 r = 0 → gI m 93 r = 0 → gI m 94 r = 20 → gI m 92 r = 0 → RnR f r r m (fun m2 => tvI m2 r = v ∧ ∀ b, (89 ≤ b ∧ b ≤ 90) ∨ b = 97 → gI m2 b r = gI m b r)
def G0 (r : Nat) (p f : List Int32) : Prop := ∀ x1 x2 x3 x4, ∃ v, EvC x1 x2 x3 x4 (21 - 4 * r) p v ∧ ∀ m, EnvR x1 x2 x3 x4 m → UwN 97 m r r → gI m 96 r = 0 → gI m 93 r = 0 → gI m 94 r = 20 → gI m 92 r = 0 → gI m 90 r = 0 → RnR f r r m (fun m2 => kvI m2 r = v ∧ gI m2 97 r = gI m 97 r)
section EvG
variable {n r d d0 c : Nat} {m m2 m3 : Mm} {v w x1 x2 x3 x4 x y : Int32} {f f2 p p2 : List Int32}
theorem env_w (h : EnvR x1 x2 x3 x4 m) (hf : frW d m m2) : EnvR x1 x2 x3 x4 m2 := ⟨(frW_g hf (by omega)).trans h.1, (frW_g hf (by omega)).trans h.2.1, (frW_g hf (by omega)).trans h.2.2.1, (frW_g hf (by omega)).trans h.2.2.2⟩
theorem uw_w (h : UwN 97 m d d0) (hg : ∀ i, i ≤ d → gI m2 97 i = gI m 97 i) : UwN 97 m2 d d0 := ⟨h.1, fun i h1 h2 => (hg i h2).trans (h.2.1 i h1 h2), h.2.2.imp id (fun k e => k ((hg d0 h.1).symm.trans e))⟩
theorem uw_s (h : UwN 97 m r r) (hg : gI m2 97 r = gI m 97 r) : UwN 97 m2 r r := ⟨Nat.le_refl _, fun i h1 h2 => absurd h1 (by omega), h.2.2.imp id (fun k e => k (hg.symm.trans e))⟩
theorem g4_num (hr : r ≤ 4) (hn : n < 10000) : G4 r [nI n] [nI (100 + n)] := fun x1 x2 x3 x4 => ⟨nI n, ec_num hn (by omega), fun m d0 _ hU => rs_num hn (by omega) hU⟩
theorem g4_var (hr : r ≤ 4) : G4 r [-2] [nI 1] ∧ G4 r [-3] [nI 2] ∧ G4 r [-4] [nI 3] ∧ G4 r [-5] [nI 4] := by
  refine ⟨fun x1 x2 x3 x4 => ⟨x1, (ec_var (by omega)).1, fun m d0 he hU => ?_⟩, fun x1 x2 x3 x4 => ⟨x2, (ec_var (by omega)).2.1, fun m d0 he hU => ?_⟩, fun x1 x2 x3 x4 => ⟨x3, (ec_var (by omega)).2.2.1, fun m d0 he hU => ?_⟩, fun x1 x2 x3 x4 => ⟨x4, (ec_var (by omega)).2.2.2, fun m d0 he hU => ?_⟩⟩
  · rw [← he.1]; exact rs_var (by omega) (by omega) hU
  · rw [← he.2.1]; exact rs_var (by omega) (by omega) hU
  · rw [← he.2.2.1]; exact rs_var (by omega) (by omega) hU
  · rw [← he.2.2.2]; exact rs_var (by omega) (by omega) hU
theorem g4_not (hr : r + 1 ≤ 4) (h : G4 (r + 1) p f) : G4 r (p ++ [-6]) ([30] ++ f) := fun x1 x2 x3 x4 => by
  obtain ⟨v, h1, h2⟩ := h x1 x2 x3 x4
  refine ⟨ngI v, ec_not (ec_mono h1 (by omega)) (by omega), fun m d0 he hU => ?_⟩
  have h0 := hU.1
  refine rn_app (rs_28 (d := r) (x := 30) (by omega) (Or.inr rfl)) (fun m2 hq hf => ?_) (by omega)
  rw [if_pos rfl] at hq
  refine rn_imp (h2 m2 d0 (env_w he hf) ⟨by omega, fun i k1 k2 => ?_, hU.2.2.imp id (fun k e => k ((frW_g hf (by omega)).symm.trans e))⟩) (fun m3 hq3 hf3 => ?_)
  · by_cases e : i = r + 1
    · rw [e]; exact hq.1
    · exact (frW_g hf (by omega)).trans (hU.2.1 i k1 (by omega))
  · refine ⟨?_, fun b k1 k2 k3 => (hq3.2 b k1 k2 k3).trans (frW_g hf (by omega))⟩
    have e := hq3.1
    rw [show r + 1 - d0 = (r - d0) + 1 from by omega, frW_g hf (by omega), frW_g hf (by omega)] at e
    exact e
theorem g4_par (hr : r + 1 ≤ 4) (h : G0 (r + 1) p f) : G4 r p ([28] ++ (f ++ [29])) := fun x1 x2 x3 x4 => by
  obtain ⟨v, h1, h2⟩ := h x1 x2 x3 x4
  refine ⟨v, ec_mono h1 (by omega), fun m d0 he hU => ?_⟩
  have h0 := hU.1
  refine rn_app (rs_28 (d := r) (x := 28) (by omega) (Or.inl rfl)) (fun m2 hq hf => ?_) (by omega)
  rw [if_neg (by decide)] at hq
  refine rn_app (h2 m2 (env_w he hf) ⟨Nat.le_refl _, fun i k1 k2 => absurd k1 (by omega), Or.inr (fun e => absurd (hq.1.symm.trans e) (by decide))⟩ hq.2.2.2.2.2 hq.2.2.2.1 hq.2.2.2.2.1 hq.2.2.1 hq.2.1) (fun m3 hq3 hf3 => ?_) (by omega)
  have hf13 := frW_t hf hf3
  refine rn_imp (rs_29 (d := r) (by omega) (uw_w hU (fun i hi => frW_g hf13 (by omega)))) (fun m4 hq4 hf4 => ⟨?_, fun b k1 k2 k3 => (hq4.2 b k1 k2 k3).trans (frW_g hf13 (by omega))⟩)
  have e := hq4.1
  rw [hq3.1, frW_g hf13 (by omega), frW_g hf13 (by omega)] at e
  exact e
theorem g3_of (hr : r ≤ 4) (h : G4 r p f) : G3 r p f := fun x1 x2 x3 x4 => by
  obtain ⟨v, h1, h2⟩ := h x1 x2 x3 x4
  refine ⟨v, ec_mono h1 (by omega), fun m he hU h96 => rn_imp (h2 m r he hU) (fun m2 hq hf => ⟨?_, fun b hb => hq.2 b (by omega) (by omega) (by omega)⟩)⟩
  have e := hq.1
  rw [if_pos h96, Nat.sub_self] at e
  exact e
theorem g3_op (hr : r ≤ 4) (h : G3 r p f) (h' : G4 r p2 f2) : G3 r (p ++ p2 ++ [-13]) (f ++ ([22] ++ f2)) := fun x1 x2 x3 x4 => by
  obtain ⟨v, h1, h2⟩ := h x1 x2 x3 x4
  obtain ⟨w, k1, k2⟩ := h' x1 x2 x3 x4
  have eU : 18 - 4 * r = (17 - 4 * r) + 1 := by omega
  rw [eU] at h1 ⊢
  refine ⟨v * w, ec_op h1 k1 (by omega) (by decide), fun m he hU h96 => ?_⟩
  refine rn_app (h2 m he hU h96) (fun m2 hq hf => ?_) (by omega)
  refine rn_app (rs_22 (by omega)) (fun m3 hq3 hf3 => ?_) (by omega)
  have g97 : gI m3 97 r = gI m 97 r := by
    rw [hq3, g_ne (by omega)]
    exact hq.2 97 (by omega)
  refine rn_imp (k2 m3 r (env_w (env_w he hf) hf3) (uw_s hU g97)) (fun m4 hq4 hf4 => ⟨?_, fun b hb => ?_⟩)
  · have e := hq4.1
    rw [hq3, g_eq, if_neg (by decide), g_ne (by omega), hq.1, Nat.sub_self] at e
    exact e
  · refine (hq4.2 b (by omega) (by omega) (by omega)).trans ?_
    rw [hq3, g_ne (by omega)]
    exact hq.2 b hb
theorem g2_of (hr : r ≤ 4) (h : G3 r p f) : G2 r p f := fun x1 x2 x3 x4 => by
  obtain ⟨v, h1, h2⟩ := h x1 x2 x3 x4
  refine ⟨v, ec_mono h1 (by omega), fun m he hU h96 h93 h94 => rn_imp (h2 m he hU h96) (fun m2 hq hf => ⟨?_, fun b hb => hq.2 b (by omega)⟩)⟩
  unfold ptI
  rw [hq.2 94 (by omega), hq.2 93 (by omega), hq.1, h93, h94, if_neg (by decide), Int32.zero_add]
theorem g2_op (hr : r ≤ 4) (h : G2 r p f) (h' : G3 r p2 f2) (hx : (x = -11 ∧ y = 20) ∨ (x = -12 ∧ y = 21)) : G2 r (p ++ p2 ++ [x]) (f ++ ([y] ++ f2)) := fun x1 x2 x3 x4 => by
  obtain ⟨v, h1, h2⟩ := h x1 x2 x3 x4
  obtain ⟨w, k1, k2⟩ := h' x1 x2 x3 x4
  have eU : 19 - 4 * r = (18 - 4 * r) + 1 := by omega
  rw [eU] at h1 ⊢
  refine ⟨jnI x v w, ec_op h1 k1 (by omega) (by rcases hx with ⟨rfl, _⟩ | ⟨rfl, _⟩ <;> decide), fun m he hU h96 h93 h94 => ?_⟩
  refine rn_app (h2 m he hU h96 h93 h94) (fun m2 hq hf => ?_) (by omega)
  refine rn_app (rs_20 (x := y) (by omega) (hx.imp And.right And.right)) (fun m3 hq3 hf3 => ?_) (by omega)
  have g : ∀ b, b ≠ 93 → b ≠ 94 → b ≠ 96 → gI m3 b r = gI m2 b r := fun b b1 b2 b3 => by rw [hq3, g_ne (by omega), g_ne (by omega), g_ne (by omega)]
  have g96 : gI m3 96 r = 0 := by rw [hq3, g_ne (by omega), g_eq]
  have g93 : gI m3 93 r = v := by rw [hq3, g_ne (by omega), g_ne (by omega), g_eq]; exact hq.1
  have g94 : gI m3 94 r = y := by rw [hq3, g_eq]
  refine rn_imp (k2 m3 (env_w (env_w he hf) hf3) (uw_s hU ((g 97 (by omega) (by omega) (by omega)).trans (hq.2 97 (by omega)))) g96) (fun m4 hq4 hf4 => ⟨?_, fun b hb => ?_⟩)
  · unfold ptI
    rw [hq4.2 94 (by omega), hq4.2 93 (by omega), hq4.1, g93, g94]
    rcases hx with ⟨rfl, rfl⟩ | ⟨rfl, rfl⟩ <;> rfl
  · exact (hq4.2 b (by omega)).trans ((g b (by omega) (by omega) (by omega)).trans (hq.2 b hb))
theorem g1_of (hr : r ≤ 4) (h : G2 r p f) : G1 r p f := fun x1 x2 x3 x4 => by
  obtain ⟨v, h1, h2⟩ := h x1 x2 x3 x4
  refine ⟨v, ec_mono h1 (by omega), fun m he hU h96 h93 h94 h92 => rn_imp (h2 m he hU h96 h93 h94) (fun m2 hq hf => ⟨?_, fun b hb => hq.2 b (by omega)⟩)⟩
  unfold tvI
  rw [hq.2 92 (by omega), h92, if_neg (by decide), if_neg (by decide)]
  exact hq.1
theorem g1_op (hr : r ≤ 4) (h : G2 r p f) (h' : G2 r p2 f2) (hx : (x = -9 ∧ y = 24) ∨ (x = -10 ∧ y = 25)) : G1 r (p ++ p2 ++ [x]) (f ++ ([y] ++ f2)) := fun x1 x2 x3 x4 => by
  obtain ⟨v, h1, h2⟩ := h x1 x2 x3 x4
  obtain ⟨w, k1, k2⟩ := h' x1 x2 x3 x4
  have eU : 20 - 4 * r = (19 - 4 * r) + 1 := by omega
  have h1' := ec_mono (U2 := (19 - 4 * r) + 1) h1 (by omega)
  rw [eU]
  refine ⟨jnI x v w, ec_op h1' k1 (by omega) (by rcases hx with ⟨rfl, _⟩ | ⟨rfl, _⟩ <;> decide), fun m he hU h96 h93 h94 h92 => ?_⟩
  refine rn_app (h2 m he hU h96 h93 h94) (fun m2 hq hf => ?_) (by omega)
  refine rn_app (rs_24 (x := y) (by omega) (hx.imp And.right And.right)) (fun m3 hq3 hf3 => ?_) (by omega)
  have g : ∀ b, b ≠ 93 → b ≠ 94 → b ≠ 96 → b ≠ 91 → b ≠ 92 → gI m3 b r = gI m2 b r := fun b b1 b2 b3 b4 b5 => by rw [hq3, g_ne (by omega), g_ne (by omega), g_ne (by omega), g_ne (by omega), g_ne (by omega), g_ne (by omega)]
  have g96 : gI m3 96 r = 0 := by rw [hq3, g_ne (by omega), g_ne (by omega), g_ne (by omega), g_ne (by omega), g_eq]
  have g91 : gI m3 91 r = v := by rw [hq3, g_ne (by omega), g_ne (by omega), g_ne (by omega), g_eq]; exact hq.1
  have g92 : gI m3 92 r = y := by rw [hq3, g_ne (by omega), g_ne (by omega), g_eq]
  have g93 : gI m3 93 r = 0 := by rw [hq3, g_ne (by omega), g_eq]
  have g94 : gI m3 94 r = 20 := by rw [hq3, g_eq]
  refine rn_imp (k2 m3 (env_w (env_w he hf) hf3) (uw_s hU ((g 97 (by omega) (by omega) (by omega) (by omega) (by omega)).trans (hq.2 97 (by omega)))) g96 g93 g94) (fun m4 hq4 hf4 => ⟨?_, fun b hb => ?_⟩)
  · unfold tvI
    rw [hq4.2 92 (by omega), hq4.2 91 (by omega), hq4.1, g91, g92]
    rcases hx with ⟨rfl, rfl⟩ | ⟨rfl, rfl⟩ <;> rfl
  · exact (hq4.2 b (by omega)).trans ((g b (by omega) (by omega) (by omega) (by omega) (by omega)).trans (hq.2 b (by omega)))
theorem g0_of (hr : r ≤ 4) (h : G1 r p f) : G0 r p f := fun x1 x2 x3 x4 => by
  obtain ⟨v, h1, h2⟩ := h x1 x2 x3 x4
  refine ⟨v, ec_mono h1 (by omega), fun m he hU h96 h93 h94 h92 h90 => rn_imp (h2 m he hU h96 h93 h94 h92) (fun m2 hq hf => ⟨?_, hq.2 97 (by omega)⟩)⟩
  unfold kvI
  rw [hq.2 90 (by omega), h90, if_neg (by decide), if_neg (by decide)]
  exact hq.1
theorem g0_op (hr : r ≤ 4) (h : G0 r p f) (h' : G1 r p2 f2) (hx : (x = -7 ∧ y = 26) ∨ (x = -8 ∧ y = 27)) : G0 r (p ++ p2 ++ [x]) (f ++ ([y] ++ f2)) := fun x1 x2 x3 x4 => by
  obtain ⟨v, h1, h2⟩ := h x1 x2 x3 x4
  obtain ⟨w, k1, k2⟩ := h' x1 x2 x3 x4
  have eU : 21 - 4 * r = (20 - 4 * r) + 1 := by omega
  rw [eU] at h1 ⊢
  refine ⟨jnI x v w, ec_op h1 k1 (by omega) (by rcases hx with ⟨rfl, _⟩ | ⟨rfl, _⟩ <;> decide), fun m he hU h96 h93 h94 h92 h90 => ?_⟩
  refine rn_app (h2 m he hU h96 h93 h94 h92 h90) (fun m2 hq hf => ?_) (by omega)
  refine rn_app (rs_26 (x := y) (by omega) (hx.imp And.right And.right)) (fun m3 hq3 hf3 => ?_) (by omega)
  obtain ⟨e1, e2, e3, e4, e5, e6, e7⟩ := hq3
  refine rn_imp (k2 m3 (env_w (env_w he hf) hf3) (uw_s hU (e7.trans hq.2)) e6 e4 e5 e3) (fun m4 hq4 hf4 => ⟨?_, (hq4.2 97 (by omega)).trans (e7.trans hq.2)⟩)
  unfold kvI
  rw [hq4.2 90 (by omega), hq4.2 89 (by omega), hq4.1, e1, e2, hq.1]
  rcases hx with ⟨rfl, rfl⟩ | ⟨rfl, rfl⟩ <;> rfl
end EvG
