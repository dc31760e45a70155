/-! MATH HALF: reading an expression, the two together -/
def CSt (q : Tq) (a u n : Nat) (m : Mm) : Prop := CTk q a m ∧ gI m 1 6 = 0 ∧ gI m (u + 4) 1 = nI n
def frC (u n : Nat) (m m2 : Mm) : Prop := m2.2 = m.2 ∧ ∀ b i, ¬ (b = 1 ∧ 2 ≤ i ∧ i ≤ 6) → ¬ (b = u + 4 ∧ i = 1) → ¬ (b = u + 5 ∧ n ≤ i) → m2.1 b i = m.1 b i
abbrev Rn : Type := Nat → Option (Int32 × Mm)
/-- both found a fault, the same -/
def OutF (u n c d e a : Nat) (mc mr : Mm) (R : Rn) (oc : Option Mm) : Prop := ∃ F mc2 mr2 n2, 0 < F ∧ F < 100000 ∧ oc = some mc2 ∧ gI mc2 1 6 = nI F ∧ gI mc2 (u + 4) 1 = nI n2 ∧ n ≤ n2 ∧ n2 ≤ 1000 ∧ frC u n mc mc2 ∧ gI mr2 78 9 = nI F ∧ frQ c d e mr mr2 ∧ ∀ k, 1002 ≤ k + a → R k = some (nI 0, mr2)
/-- both have read so far -/
def Acc (G : List Int32 → List Int32 → Prop) (E : Nat → Mm → Prop) (q : Tq) (u n c d d0 e a : Nat) (mc mr : Mm) (R : Rn) (p f : List Int32) (a1 : Nat) (mc1 mr1 : Mm) : Prop := d ≤ 4 ∧ G p f ∧ 0 < p.length ∧ 0 < f.length ∧ p.length + a ≤ a1 ∧ f.length + a ≤ a1 ∧ a1 ≤ q.1 ∧ CSt q a1 u (n + p.length) mc1 ∧ Seg (u + 5) n p mc1 ∧ frC u n mc mc1 ∧ RSt q a1 (c + f.length) mr1 ∧ Seg 86 (1000 + c) f mr1 ∧ frQ c d e mr mr1 ∧ E a1 mr1 ∧ ∀ k, 1002 ≤ k + a → ∃ k2, 1002 ≤ k2 + a1 ∧ R k = f_X11_reads_L11 k2 (nI d0) (0 : Int32) mr1
def Out (G : List Int32 → List Int32 → Prop) (E : Nat → Mm → Prop) (q : Tq) (u n c d d0 e a : Nat) (mc mr : Mm) (R : Rn) (oc : Option Mm) : Prop := OutF u n c d e a mc mr R oc ∨ ∃ p f a1 mc1 mr1, Acc G E q u n c d d0 e a mc mr R p f a1 mc1 mr1 ∧ oc = some mc1
def GV (lev r : Nat) (p f : List Int32) : Prop := match lev with
  | 0 => G0 r p f
  | 1 => G1 r p f
  | 2 => G2 r p f
  | 3 => G3 r p f
  | _ => G4 r p f
def EE (lev : Nat) (q : Tq) (r a : Nat) (m : Mm) : Prop := (lev ≤ 3 → ¬ siP q a 42) ∧ (lev ≤ 2 → ¬ siP q a 43 ∧ ¬ siP q a 45) ∧ (lev ≤ 1 → siP q a 60 ∨ siP q a 61 → ¬ gI m 88 r = 0) ∧ (lev = 0 → ¬ woP q a 2008 ∧ ¬ woP q a 2009)
def eL (lev r : Nat) : Nat := if lev ≤ 1 then r else r + 1
def PartOk (r : Nat) : Prop := ∀ k, 1 + 6 * (5 - r) ≤ k → ∀ q a u n c d0 mc mr, (u = 3 ∨ u = 10) → TW q → a ≤ q.1 → CSt q a u n mc → n ≤ a → RSt q a c mr → c ≤ a → UwN 87 mr r d0 → Out (G4 r) (fun _ _ => True) q u n c r d0 (r + 1) a mc mr (fun k => f_X11_reads_L11 k (nI r) (1 : Int32) mr) ((fr_X0_chain_X0_part u k).2 (nI r) mc)
def ChainOk (lev r : Nat) : Prop := ∀ k, (5 - lev) + 1 + 6 * (5 - r) ≤ k → ∀ q a u n c mc mr, (u = 3 ∨ u = 10) → TW q → a ≤ q.1 → CSt q a u n mc → n ≤ a → RSt q a c mr → c ≤ a → UwN 87 mr r r → (lev ≤ 1 → gI mr 88 r = 0) → Out (GV lev r) (EE lev q r) q u n c r r (eL lev r) a mc mr (fun k => f_X11_reads_L11 k (nI r) (1 : Int32) mr) ((fr_X0_chain_X0_part u k).1 (nI lev) (nI r) mc)
section Expr
variable {q : Tq} {a a1 b c d d0 e e2 i j k n p s u x r lev : Nat} {m m2 m3 mc mc1 mc2 mc3 mr mr1 mr2 mr3 : Mm} {y z g v : Int32} {f f2 p1 p2 : List Int32} {R R2 : Rn} {G : List Int32 → List Int32 → Prop} {E : Nat → Mm → Prop} {oc : Option Mm}
theorem frC_r : frC u n m m := ⟨rfl, fun _ _ _ _ _ => rfl⟩
theorem frC_t (h1 : frC u n m m2) (h2 : frC u n m2 m3) : frC u n m m3 := ⟨h2.1.trans h1.1, fun b i k1 k2 k3 => (h2.2 b i k1 k2 k3).trans (h1.2 b i k1 k2 k3)⟩
theorem frC_le {n2 : Nat} (h : frC u n2 m m2) (h1 : n ≤ n2) : frC u n m m2 := ⟨h.1, fun b i k1 k2 k3 => h.2 b i k1 k2 (by omega)⟩
theorem frC_m (h1 : frC u n m m2) (h2 : mvC m2 m3) : frC u n m m3 := ⟨h2.1.trans h1.1, fun b i k1 k2 k3 => (h2.2 b i (by omega)).trans (h1.2 b i k1 k2 k3)⟩
theorem frC_s (h1 : frC u n m m2) (h : (b = 1 ∧ i = 6) ∨ (b = u + 4 ∧ i = 1) ∨ (b = u + 5 ∧ n ≤ i)) : frC u n m (sI m2 b i y) := ⟨h1.1, fun b2 i2 k1 k2 k3 => by
  simp only [sI]
  rw [if_neg (by omega)]
  exact h1.2 b2 i2 k1 k2 k3⟩
theorem frC_g (h : frC u n m m2) (k1 : ¬ (b = 1 ∧ 2 ≤ i ∧ i ≤ 6)) (k2 : ¬ (b = u + 4 ∧ i = 1)) (k3 : ¬ (b = u + 5 ∧ n ≤ i)) : gI m2 b i = gI m b i := h.2 b i k1 k2 k3
theorem mc_g (h : mvC m m2) (hb : ¬ (b = 1 ∧ 2 ≤ i ∧ i ≤ 5)) : gI m2 b i = gI m b i := h.2 b i hb
theorem x_add (h : gI m (u + 4) 1 = nI n) (hn : n < 1000) : f_X3_add (u + 4) y m = some (sI (sI m (u + 5) n y) (u + 4) 1 (nI (n + 1))) := by
  unfold f_X3_add
  rw [h, q_l1000, if_pos ((q_ltp (by omega) (by omega)).mpr hn), q_gd hn (by omega), q_ix (by omega), q_stI, q_stI, g_ne (by omega), h, q_l1, nI_add]
theorem x_addF (hu : u = 3 ∨ u = 10) (h : gI m (u + 4) 1 = nI n) (hn : n ≤ 1000) : ∃ m2 n2, f_X3_add (u + 4) y m = some m2 ∧ gI m2 (u + 4) 1 = nI n2 ∧ n ≤ n2 ∧ n2 ≤ 1000 ∧ gI m2 1 6 = gI m 1 6 ∧ frC u n m m2 := by
  by_cases h1 : n < 1000
  · refine ⟨_, n + 1, x_add h h1, g_eq, by omega, by omega, ?_, frC_s (frC_s frC_r (by omega)) (by omega)⟩
    rw [g_ne (by omega), g_ne (by omega)]
  · refine ⟨m, n, ?_, h, by omega, hn, rfl, frC_r⟩
    unfold f_X3_add
    rw [h, q_l1000, if_neg (fun e => h1 ((q_ltp (by omega) (by omega)).mp e))]
theorem cs_adv (hu : u = 3 ∨ u = 10) (h : CSt q a u n m) (hq : TW q) (ha : a ≤ q.1) : ∃ m2, f_X7_advance m = some m2 ∧ CSt q (nxT q a) u n m2 ∧ mvC m m2 := by
  obtain ⟨m2, e1, e2, e3⟩ := c_adv2 h.1 hq ha
  exact ⟨m2, e1, ⟨e2, (mc_g e3 (by omega)).trans h.2.1, (mc_g e3 (by omega)).trans h.2.2⟩, e3⟩
theorem cs_add (hu : u = 3 ∨ u = 10) (h : CSt q a u n m) (hn : n < 1000) : ∃ m2, f_X3_add (u + 4) y m = some m2 ∧ CSt q a u (n + 1) m2 ∧ gI m2 (u + 5) n = y ∧ (∀ i, i < n → gI m2 (u + 5) i = gI m (u + 5) i) ∧ frC u n m m2 := by
  refine ⟨_, x_add h.2.2 hn, ⟨CTk_s (CTk_s h.1 (by omega)) (by omega), ?_, g_eq⟩, ?_, fun i hi => ?_, frC_s (frC_s frC_r (by omega)) (by omega)⟩
  · rw [g_ne (by omega), g_ne (by omega)]; exact h.2.1
  · rw [g_ne (by omega), g_eq]
  · rw [g_ne (by omega), g_ne (by omega)]
theorem Rk {P : Nat → Prop} (ha : a ≤ 1000) (hk : 1002 ≤ k + a) (h : ∀ j, k = j + 1 → 1002 ≤ j + (a + 1) → P (j + 1)) : P k := by
  cases k with
  | zero => omega
  | succ j => exact h j rfl (by omega)
/-- a fault in what follows an operator -/
theorem join_F (hu : u = 3 ∨ u = 10) (hq : TW q) (hA : Acc G E q u n c r r e a mc mr R p1 f a1 mc1 mr1) (hC : tkC q a1 ≠ 0) (hs : ∀ k, f_X11_reads_L11 (k + 1) (nI r) (0 : Int32) mr1 = f_X11_reads_L11 k (nI r) (1 : Int32) mr2) (hf : frQ (c + f.length) r e mr1 mr2) (hm : mvC mc1 mc2) (hF : OutF u (n + p1.length) (c + f.length + 1) r e2 (nxT q a1) mc2 mr2 (fun k => f_X11_reads_L11 k (nI r) (1 : Int32) mr2) oc) (he : e ≤ e2) : OutF u n c r e a mc mr R (bd1 oc (fun m5 => f_X3_add (u + 4) y m5)) := by
  obtain ⟨A0, A1, A2, A3, A4, A5, A6, A7, A8, A9, A10, A11, A12, A13, A14⟩ := hA
  obtain ⟨F, mc3, mr3, n3, b1, b2, b3, b4, b5, b6, b7, b8, b9, b10, b11⟩ := hF
  obtain ⟨mc4, n4, d1, d2, d3, d4, d5, d6⟩ := x_addF (y := y) hu b5 b7
  have hn := nxT_lt hC
  have h1 := hq.1
  refine ⟨F, mc4, mr3, n4, b1, b2, by rw [b3, q_bd1, d1], d5.trans b4, d2, by omega, d4, frC_t (frC_m A9 hm) (frC_t (frC_le b8 (by omega)) (frC_le d6 (by omega))), b9, frQ_t A12 (frQ_t (frQ_le hf (by omega) (by omega) (by omega)) (frQ_le b10 (by omega) (by omega) he)), fun k hk => ?_⟩
  obtain ⟨k2, c1, c2⟩ := A14 k hk
  rw [c2]
  refine Rk (P := fun k2 => f_X11_reads_L11 k2 (nI r) (0 : Int32) mr1 = some (nI 0, mr3)) (a := a1) (by omega) c1 (fun j _ hj => ?_)
  rw [hs j]
  exact b11 j (by omega)
/-- what follows an operator is read -/
theorem join_S {G2 G3 : List Int32 → List Int32 → Prop} {E2 E3 : Nat → Mm → Prop} {a3 : Nat} (hu : u = 3 ∨ u = 10) (hq : TW q) (hn0 : n ≤ a) (hA : Acc G E q u n c r r e a mc mr R p1 f a1 mc1 mr1) (hC : tkC q a1 ≠ 0) (hs : ∀ k, f_X11_reads_L11 (k + 1) (nI r) (0 : Int32) mr1 = f_X11_reads_L11 k (nI r) (1 : Int32) mr2) (h86 : gI mr2 86 (1000 + (c + f.length)) = z) (hf : frQ (c + f.length) r e mr1 mr2) (hm : mvC mc1 mc2) (hB : Acc G2 E2 q u (n + p1.length) (c + f.length + 1) r r e2 (nxT q a1) mc2 mr2 (fun k => f_X11_reads_L11 k (nI r) (1 : Int32) mr2) p2 f2 a3 mc3 mr3) (he : e ≤ e2) (hG : G3 (p1 ++ p2 ++ [y]) (f ++ ([z] ++ f2))) (hE : E3 a3 mr3) : ∃ mc4, f_X3_add (u + 4) y mc3 = some mc4 ∧ Acc G3 E3 q u n c r r e a mc mr R (p1 ++ p2 ++ [y]) (f ++ ([z] ++ f2)) a3 mc4 mr3 := by
  obtain ⟨A0, A1, A2, A3, A4, A5, A6, A7, A8, A9, A10, A11, A12, A13, A14⟩ := hA
  obtain ⟨B0, B1, B2, B3, B4, B5, B6, B7, B8, B9, B10, B11, B12, B13, B14⟩ := hB
  have hn := nxT_lt hC
  have h1 := hq.1
  obtain ⟨mc4, d1, d2, d3, d4, d5⟩ := cs_add (y := y) hu B7 (by omega)
  have lp : (p1 ++ p2 ++ [y]).length = p1.length + p2.length + 1 := by simp; omega
  have lf : (f ++ ([z] ++ f2)).length = f.length + 1 + f2.length := by simp; omega
  refine ⟨mc4, d1, A0, hG, by omega, by omega, by omega, by omega, B6, ?_, ?_, frC_t (frC_m A9 hm) (frC_t (frC_le B9 (by omega)) (frC_le d5 (by omega))), ?_, ?_, frQ_t A12 (frQ_t (frQ_le hf (by omega) (by omega) (by omega)) (frQ_le B12 (by omega) (by omega) he)), hE, fun k hk => ?_⟩
  · rw [lp, show n + (p1.length + p2.length + 1) = n + p1.length + p2.length + 1 from by omega]
    exact d2
  · refine Seg_app.mpr ⟨Seg_app.mpr ⟨?_, ?_⟩, ?_, trivial⟩
    · refine Seg_fr A8 (fun i k1 k2 => ?_)
      rw [d4 i (by omega), frC_g B9 (by omega) (by omega) (by omega)]
      exact mc_g hm (by omega)
    · exact Seg_fr B8 (fun i k1 k2 => d4 i (by omega))
    · rw [List.length_append, ← Nat.add_assoc]
      exact d3
  · rw [lf, show c + (f.length + 1 + f2.length) = c + f.length + 1 + f2.length from by omega]
    exact B10
  · refine Seg_app.mpr ⟨?_, ?_, ?_⟩
    · refine Seg_fr A11 (fun i k1 k2 => ?_)
      rw [frQ_g B12 (by omega) (by omega) (by omega) (by omega), frQ_g hf (by omega) (by omega) (by omega) (by omega)]
    · rw [frQ_g B12 (by omega) (by omega) (by omega) (by omega), Nat.add_assoc]
      exact h86
    · have e : 1000 + c + f.length + 1 = 1000 + (c + f.length + 1) := by omega
      show Seg 86 (1000 + c + f.length + 1) f2 mr3
      rw [e]
      exact B11
  · obtain ⟨k2, c1, c2⟩ := A14 k hk
    rw [c2]
    refine Rk (P := fun k2 => ∃ k3, 1002 ≤ k3 + a3 ∧ f_X11_reads_L11 k2 (nI r) (0 : Int32) mr1 = f_X11_reads_L11 k3 (nI r) (0 : Int32) mr3) (a := a1) (by omega) c1 (fun j _ hj => ?_)
    obtain ⟨k4, e1, e2⟩ := B14 j (by omega)
    exact ⟨k4, e1, by rw [hs j]; exact e2⟩
theorem OutF_le (h : OutF u n c d e2 a mc mr R oc) (he : e ≤ e2) : OutF u n c d e a mc mr R oc := by
  obtain ⟨F, mc3, mr3, n3, b1, b2, b3, b4, b5, b6, b7, b8, b9, b10, b11⟩ := h
  exact ⟨F, mc3, mr3, n3, b1, b2, b3, b4, b5, b6, b7, b8, b9, frQ_le b10 (Nat.le_refl _) (Nat.le_refl _) he, b11⟩
theorem Acc_le {G2 : List Int32 → List Int32 → Prop} {E2 : Nat → Mm → Prop} (h : Acc G E q u n c d d0 e2 a mc mr R p1 f a1 mc1 mr1) (he : e ≤ e2) (hG : d ≤ 4 → G p1 f → G2 p1 f) (hE : E a1 mr1 → E2 a1 mr1) : Acc G2 E2 q u n c d d0 e a mc mr R p1 f a1 mc1 mr1 := by
  obtain ⟨A0, A1, A2, A3, A4, A5, A6, A7, A8, A9, A10, A11, A12, A13, A14⟩ := h
  exact ⟨A0, hG A0 A1, A2, A3, A4, A5, A6, A7, A8, A9, A10, A11, frQ_le A12 (Nat.le_refl _) (Nat.le_refl _) he, hE A13, A14⟩
end Expr
