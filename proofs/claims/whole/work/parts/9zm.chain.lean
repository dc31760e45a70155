/-! MATH HALF: reading an expression, the chains -/
def noOp (lev : Nat) (q : Tq) (a : Nat) : Prop := (lev = 3 → ¬ siP q a 42) ∧ (lev = 2 → ¬ siP q a 43 ∧ ¬ siP q a 45) ∧ (lev = 1 → ¬ siP q a 60 ∧ ¬ siP q a 61) ∧ (lev = 0 → ¬ woP q a 2008 ∧ ¬ woP q a 2009)
def clo (lev r : Nat) (x y : Int32) : Prop := match lev with
  | 0 => ∀ p f p2 f2, G0 r p f → G1 r p2 f2 → G0 r (p ++ p2 ++ [x]) (f ++ ([y] ++ f2))
  | 1 => ∀ p f p2 f2, G2 r p f → G2 r p2 f2 → G1 r (p ++ p2 ++ [x]) (f ++ ([y] ++ f2))
  | 2 => ∀ p f p2 f2, G2 r p f → G3 r p2 f2 → G2 r (p ++ p2 ++ [x]) (f ++ ([y] ++ f2))
  | _ => ∀ p f p2 f2, G3 r p f → G4 r p2 f2 → G3 r (p ++ p2 ++ [x]) (f ++ ([y] ++ f2))
section Chain
variable {q : Tq} {a a1 b c d d0 e i j k n p s u x r lev : Nat} {m m2 m3 mc mc1 mc2 mc3 mr mr1 mr2 mr3 : Mm} {y z g v : Int32} {f f2 p1 p2 : List Int32} {R : Rn} {G : List Int32 → List Int32 → Prop} {E : Nat → Mm → Prop} {oc : Option Mm}
/-- an operator in hand, or none -/
theorem opJ (hlev : lev ≤ 3) (hr : r ≤ 4) (h : CSt q a u n mc) (hR : RSt q a c mr) (hq : TW q) (ha : a ≤ q.1) (hc : tkC q a ≠ 0 → c < 1000) (h88 : lev = 1 → gI mr 88 r = 0) : (f_X0_operatorInHand u (nI lev) mc = some (-1, mc) ∧ noOp lev q a) ∨ ∃ x y mr2, f_X0_operatorInHand u (nI lev) mc = some (x, mc) ∧ ¬ x = (-1 : Int32) ∧ tkC q a ≠ 0 ∧ clo lev r x y ∧ (∀ k, f_X11_reads_L11 (k + 1) (nI r) (0 : Int32) mr = f_X11_reads_L11 k (nI r) (1 : Int32) mr2) ∧ RSt q (nxT q a) (c + 1) mr2 ∧ gI mr2 86 (1000 + c) = y ∧ (lev = 0 → gI mr2 88 r = 0) ∧ (lev = 1 → gI mr2 88 r = 1) ∧ frQ c r (eL lev r) mr mr2 := by
  have hs : lev = 0 ∨ lev = 1 ∨ lev = 2 ∨ lev = 3 := by omega
  rcases hs with rfl | rfl | rfl | rfl
  · have w8 : f_X7_isWord 1008 mc = _ := c_word (p := 8) h.1 hq ha (by omega)
    have w9 : f_X7_isWord 1009 mc = _ := c_word (p := 9) h.1 hq ha (by omega)
    unfold f_X0_operatorInHand
    rw [if_pos (by rfl), w8, q_bd2]
    by_cases p8 : woP q a 2008
    · right
      obtain ⟨mr2, s1, s2, s3, s4, s5⟩ := rt_342 (d := r) (y := 26) hR hq ha (hc (by rw [p8.1]; decide)) (by omega) (Or.inl ⟨p8, rfl⟩)
      rw [if_neg (fun e => b01.mp e p8)]
      exact ⟨-7, 26, mr2, rfl, by decide, by rw [p8.1]; decide, fun p f p2 f2 g1 g2 => g0_op hr g1 g2 (Or.inl ⟨rfl, rfl⟩), s1, s2, s3, fun _ => s4, fun e => absurd e (by decide), s5⟩
    · rw [if_pos (b01.mpr p8), w9, q_bd2]
      by_cases p9 : woP q a 2009
      · right
        obtain ⟨mr2, s1, s2, s3, s4, s5⟩ := rt_342 (d := r) (y := 27) hR hq ha (hc (by rw [p9.1]; decide)) (by omega) (Or.inr ⟨p8, p9, rfl⟩)
        rw [if_neg (fun e => b01.mp e p9)]
        exact ⟨-8, 27, mr2, rfl, by decide, by rw [p9.1]; decide, fun p f p2 f2 g1 g2 => g0_op hr g1 g2 (Or.inr ⟨rfl, rfl⟩), s1, s2, s3, fun _ => s4, fun e => absurd e (by decide), s5⟩
      · left
        rw [if_pos (b01.mpr p9)]
        exact ⟨rfl, fun e => absurd e (by decide), fun e => absurd e (by decide), fun e => absurd e (by decide), fun _ => ⟨p8, p9⟩⟩
  · have w8 : f_X7_isSign 60 mc = _ := c_sign (s := 60) h.1 hq ha (by omega)
    have w9 : f_X7_isSign 61 mc = _ := c_sign (s := 61) h.1 hq ha (by omega)
    unfold f_X0_operatorInHand
    rw [if_neg (by decide), if_pos (by rfl), w8, q_bd2]
    by_cases p8 : siP q a 60
    · right
      obtain ⟨mr2, s1, s2, s3, s4, s5⟩ := rt_263 (d := r) (y := 24) hR hq ha (hc (by rw [p8.1]; decide)) (by omega) (h88 rfl) (Or.inl ⟨p8, rfl⟩)
      rw [if_neg (fun e => b01.mp e p8)]
      exact ⟨-9, 24, mr2, rfl, by decide, by rw [p8.1]; decide, fun p f p2 f2 g1 g2 => g1_op hr g1 g2 (Or.inl ⟨rfl, rfl⟩), s1, s2, s3, fun e => absurd e (by decide), fun _ => s4, s5⟩
    · rw [if_pos (b01.mpr p8), w9, q_bd2]
      by_cases p9 : siP q a 61
      · right
        obtain ⟨mr2, s1, s2, s3, s4, s5⟩ := rt_263 (d := r) (y := 25) hR hq ha (hc (by rw [p9.1]; decide)) (by omega) (h88 rfl) (Or.inr ⟨p9, rfl⟩)
        rw [if_neg (fun e => b01.mp e p9)]
        exact ⟨-10, 25, mr2, rfl, by decide, by rw [p9.1]; decide, fun p f p2 f2 g1 g2 => g1_op hr g1 g2 (Or.inr ⟨rfl, rfl⟩), s1, s2, s3, fun e => absurd e (by decide), fun _ => s4, s5⟩
      · left
        rw [if_pos (b01.mpr p9)]
        exact ⟨rfl, fun e => absurd e (by decide), fun e => absurd e (by decide), fun _ => ⟨p8, p9⟩, fun e => absurd e (by decide)⟩
  · have w8 : f_X7_isSign 43 mc = _ := c_sign (s := 43) h.1 hq ha (by omega)
    have w9 : f_X7_isSign 45 mc = _ := c_sign (s := 45) h.1 hq ha (by omega)
    unfold f_X0_operatorInHand
    rw [if_neg (by decide), if_neg (by decide), if_pos (by rfl), w8, q_bd2]
    by_cases p8 : siP q a 43
    · right
      obtain ⟨mr2, s1, s2, s3, s4⟩ := rt_206 (d := r) (y := 20) hR hq ha (hc (by rw [p8.1]; decide)) (Or.inl ⟨p8, rfl⟩)
      rw [if_neg (fun e => b01.mp e p8)]
      exact ⟨-11, 20, mr2, rfl, by decide, by rw [p8.1]; decide, fun p f p2 f2 g1 g2 => g2_op hr g1 g2 (Or.inl ⟨rfl, rfl⟩), s1, s2, s3, fun e => absurd e (by decide), fun e => absurd e (by decide), s4 r⟩
    · rw [if_pos (b01.mpr p8), w9, q_bd2]
      by_cases p9 : siP q a 45
      · right
        obtain ⟨mr2, s1, s2, s3, s4⟩ := rt_206 (d := r) (y := 21) hR hq ha (hc (by rw [p9.1]; decide)) (Or.inr (Or.inl ⟨p9, rfl⟩))
        rw [if_neg (fun e => b01.mp e p9)]
        exact ⟨-12, 21, mr2, rfl, by decide, by rw [p9.1]; decide, fun p f p2 f2 g1 g2 => g2_op hr g1 g2 (Or.inr ⟨rfl, rfl⟩), s1, s2, s3, fun e => absurd e (by decide), fun e => absurd e (by decide), s4 r⟩
      · left
        rw [if_pos (b01.mpr p9)]
        exact ⟨rfl, fun e => absurd e (by decide), fun _ => ⟨p8, p9⟩, fun e => absurd e (by decide), fun e => absurd e (by decide)⟩
  · have w8 : f_X7_isSign 42 mc = _ := c_sign (s := 42) h.1 hq ha (by omega)
    unfold f_X0_operatorInHand
    rw [if_neg (by decide), if_neg (by decide), if_neg (by decide), w8, q_bd2]
    by_cases p8 : siP q a 42
    · right
      obtain ⟨mr2, s1, s2, s3, s4⟩ := rt_206 (d := r) (y := 22) hR hq ha (hc (by rw [p8.1]; decide)) (Or.inr (Or.inr ⟨p8, rfl⟩))
      rw [if_neg (fun e => b01.mp e p8)]
      exact ⟨-13, 22, mr2, rfl, by decide, by rw [p8.1]; decide, fun p f p2 f2 g1 g2 => g3_op hr g1 g2, s1, s2, s3, fun e => absurd e (by decide), fun e => absurd e (by decide), s4 r⟩
    · left
      rw [if_pos (b01.mpr p8)]
      exact ⟨rfl, fun _ => p8, fun e => absurd e (by decide), fun e => absurd e (by decide), fun e => absurd e (by decide)⟩
theorem l35_no {Fc : Int32 → Int32 → Mm → Option Mm} {Fp : Int32 → Mm → Option Mm} {v1 v2 v3 v4 : Int32} (h : ¬ gI m 1 6 = 0) : f_X0_chain_L35 u Fc Fp (k + 1) v1 v2 v3 v4 m = some m := by
  rw [f_X0_chain_L35, if_neg h]
  split <;> rfl
theorem uw_q (h : UwN 87 mr r r) (hf : frQ c r e mr mr1) : UwN 87 mr1 r r := ⟨Nat.le_refl _, fun i h1 h2 => absurd h1 (by omega), h.2.2.imp id (fun k e => k ((frQ_g hf (by omega) (by omega) (by omega) (by omega)).symm.trans e))⟩
theorem F_nz {F : Nat} (h1 : 0 < F) (h2 : F < 100000) (h : gI m 1 6 = nI F) : ¬ gI m 1 6 = 0 := fun e => by
  rw [h] at e
  have := (q_eq (b := 0) (by omega) (by omega)).mp e
  omega
/-- operators of a level, one after the other -/
theorem loopC (hlev : lev = 0 ∨ lev = 2 ∨ lev = 3) (hCh : ChainOk (lev + 1) r) (hk : (5 - (lev + 1)) + 1 + 6 * (5 - r) ≤ k) (hu : u = 3 ∨ u = 10) (hq : TW q) (hn : n ≤ a) (hcc : c ≤ a) (hU : UwN 87 mr r r) : ∀ (w a1 : Nat) (p1 f : List Int32) (mc1 mr1 : Mm) (j fu : Nat), q.1 - a1 ≤ w → w < fu → j < a1 → Acc (GV lev r) (EE (lev + 1) q r) q u n c r r (eL lev r) a mc mr R p1 f a1 mc1 mr1 → Out (GV lev r) (EE lev q r) q u n c r r (eL lev r) a mc mr R (f_X0_chain_L35 u (fr_X0_chain_X0_part u k).1 (fr_X0_chain_X0_part u k).2 fu (nI lev) (nI r) (nI 1000) (nI j) mc1) := by
  intro w
  induction w with
  | zero =>
    intro a1 p1 f mc1 mr1 j fu hw hf hj hA
    obtain ⟨fu', rfl⟩ : ∃ x, fu = x + 1 := ⟨fu - 1, by omega⟩
    have hA' := hA
    obtain ⟨A0, A1, A2, A3, A4, A5, A6, A7, A8, A9, A10, A11, A12, A13, A14⟩ := hA'
    have h1 := hq.1
    have hC0 : tkC q a1 = 0 := Classical.not_not.mp (fun e => absurd (tkC_in e) (by omega))
    have ho := opJ (lev := lev) (by omega) A0 A7 A10 hq A6 (fun e => by have := tkC_in e; omega) (fun e => absurd e (by omega))
    rcases ho with ⟨o1, o2⟩ | ⟨x, y, mr2, o1, o2, o3, _⟩
    · right
      refine ⟨p1, f, a1, mc1, mr1, Acc_le hA (Nat.le_refl _) (fun _ g => g) (fun hE => ?_), ?_⟩
      · obtain ⟨E1, E2, E3, E4⟩ := hE
        obtain ⟨O1, O2, O3, O4⟩ := o2
        exact ⟨fun h => by rcases hlev with rfl | rfl | rfl <;> first | exact E1 (by omega) | exact O1 rfl, fun h => by rcases hlev with rfl | rfl | rfl <;> first | exact E2 (by omega) | exact O2 rfl | omega, fun h => by rcases hlev with rfl | rfl | rfl <;> first | exact E3 (by omega) | omega, fun h => O4 h⟩
      · rw [f_X0_chain_L35, if_pos ((q_ltp (by omega) (by omega)).mpr (by omega)), if_pos A7.2.1, o1, q_bd2, if_pos rfl]
    · exact absurd hC0 o3
  | succ w ih =>
    intro a1 p1 f mc1 mr1 j fu hw hf hj hA
    obtain ⟨fu', rfl⟩ : ∃ x, fu = x + 1 := ⟨fu - 1, by omega⟩
    have hA' := hA
    obtain ⟨A0, A1, A2, A3, A4, A5, A6, A7, A8, A9, A10, A11, A12, A13, A14⟩ := hA'
    have h1 := hq.1
    have he : eL lev r ≤ eL (lev + 1) r := by
      unfold eL
      split <;> split <;> omega
    have ho := opJ (lev := lev) (by omega) A0 A7 A10 hq A6 (fun e => by have := tkC_in e; omega) (fun e => absurd e (by omega))
    rcases ho with ⟨o1, o2⟩ | ⟨x, y, mr2, o1, o2, o3, o4, o5, o6, o7, o8, o9, o10⟩
    · right
      refine ⟨p1, f, a1, mc1, mr1, Acc_le hA (Nat.le_refl _) (fun _ g => g) (fun hE => ?_), ?_⟩
      · obtain ⟨E1, E2, E3, E4⟩ := hE
        obtain ⟨O1, O2, O3, O4⟩ := o2
        exact ⟨fun h => by rcases hlev with rfl | rfl | rfl <;> first | exact E1 (by omega) | exact O1 rfl, fun h => by rcases hlev with rfl | rfl | rfl <;> first | exact E2 (by omega) | exact O2 rfl | omega, fun h => by rcases hlev with rfl | rfl | rfl <;> first | exact E3 (by omega) | omega, fun h => O4 h⟩
      · rw [f_X0_chain_L35, if_pos ((q_ltp (by omega) (by omega)).mpr (by omega)), if_pos A7.2.1, o1, q_bd2, if_pos rfl]
    · have hin := tkC_in o3
      have hnx := nxT_lt o3
      have hnl := nxT_le A6
      obtain ⟨mc2, v1, v2, v3⟩ := cs_adv hu A7 hq A6
      have hin2 := hCh k hk q (nxT q a1) u (n + p1.length) (c + f.length + 1) mc2 mr2 hu hq hnl v2 (by omega) o6 (by omega) (uw_q (uw_q hU A12) o10) (fun hl => o8 (by omega))
      rw [f_X0_chain_L35, if_pos ((q_ltp (by omega) (by omega)).mpr (by omega)), if_pos A7.2.1, o1, q_bd2, if_neg o2, v1, q_bd1, q_l1, nI_add, bd1_2, nI_add]
      rcases hin2 with hF | ⟨p2, f2, a3, mc3, mr3, hB, hB2⟩
      · left
        obtain ⟨F, mc4, mr4, n4, b1, b2, b3, b4, b5, b6, b7, b8, b9, b10, b11⟩ := join_F (y := x) hu hq hA o3 o5 o10 v3 hF he
        refine ⟨F, mc4, mr4, n4, b1, b2, ?_, b4, b5, b6, b7, b8, b9, b10, b11⟩
        obtain ⟨fu2, rfl⟩ : ∃ x, fu' = x + 1 := ⟨fu' - 1, by omega⟩
        rw [b3, q_bd1, l35_no (F_nz b1 b2 b4)]
      · have hG : GV lev r (p1 ++ p2 ++ [x]) (f ++ ([y] ++ f2)) := by
          rcases hlev with rfl | rfl | rfl
          · exact o4 _ _ _ _ A1 hB.2.1
          · exact o4 _ _ _ _ A1 hB.2.1
          · exact o4 _ _ _ _ A1 hB.2.1
        obtain ⟨mc4, d1, d2⟩ := join_S (E3 := EE (lev + 1) q r) hu hq hn hA o3 o5 o7 o10 v3 hB he hG hB.2.2.2.2.2.2.2.2.2.2.2.2.2.1
        rw [hB2, q_bd1, d1, q_bd1]
        have q1 := hB.2.2.1
        have q2 := hB.2.2.2.2.1
        exact ih a3 _ _ mc4 mr3 (j + 1) fu' (by omega) (by omega) (by omega) d2
end Chain
