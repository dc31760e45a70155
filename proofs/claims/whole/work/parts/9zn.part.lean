/-! MATH HALF: reading an expression, chains and parts by their rounds -/
section PartS
variable {q : Tq} {a a1 b c d d0 e i j k n p s u x r lev : Nat} {m m2 m3 mc mc1 mc2 mc3 mr mr1 mr2 mr3 : Mm} {y z g v : Int32} {f f2 p1 p2 : List Int32} {R : Rn} {G : List Int32 → List Int32 → Prop} {E : Nat → Mm → Prop} {oc : Option Mm}
theorem fr_1 : (fr_X0_chain_X0_part u (k + 1)).1 = f_X0_chain u (fr_X0_chain_X0_part u k).1 (fr_X0_chain_X0_part u k).2 := rfl
theorem fr_2 : (fr_X0_chain_X0_part u (k + 1)).2 = f_X0_part u (fr_X0_chain_X0_part u k).1 (fr_X0_chain_X0_part u k).2 := rfl
theorem bd1_id {o : Option Mm} : bd1 o (fun m => some m) = o := by cases o <;> rfl
theorem chain4 (h : PartOk r) : ChainOk 4 r := by
  intro k hk q a u n c mc mr hu hq ha hC hn hR hc hU h88
  obtain ⟨k', rfl⟩ : ∃ x, k = x + 1 := ⟨k - 1, by omega⟩
  have hp := h k' (by omega) q a u n c r mc mr hu hq ha hC hn hR hc hU
  rw [fr_1]
  unfold f_X0_chain
  rw [if_neg (by decide), bd1_id]
  rcases hp with hF | ⟨p, f, a1, mc1, mr1, hA, hB⟩
  · exact Or.inl hF
  · refine Or.inr ⟨p, f, a1, mc1, mr1, Acc_le hA (Nat.le_refl _) (fun _ g => g) (fun _ => ?_), hB⟩
    exact ⟨fun e => absurd e (by decide), fun e => absurd e (by decide), fun e => absurd e (by decide), fun e => absurd e (by decide)⟩
theorem chainL (hlev : lev = 0 ∨ lev = 2 ∨ lev = 3) (h : ChainOk (lev + 1) r) : ChainOk lev r := by
  intro k hk q a u n c mc mr hu hq ha hC hn hR hc hU h88
  obtain ⟨k', rfl⟩ : ∃ x, k = x + 1 := ⟨k - 1, by omega⟩
  have hp := h k' (by omega) q a u n c mc mr hu hq ha hC hn hR hc hU (fun hl => h88 (by omega))
  have he : eL lev r ≤ eL (lev + 1) r := by
    unfold eL
    split <;> split <;> omega
  have h1 := hq.1
  have i4 : nI lev < (4 : Int32) := (q_ltp (b := 4) (by omega) (by omega)).mpr (by omega)
  have i1 : ¬ nI lev = (1 : Int32) := fun e => absurd ((q_eq (b := 1) (by omega) (by omega)).mp e) (by omega)
  rw [fr_1]
  unfold f_X0_chain
  rw [if_pos i4, q_l1, nI_add, ← q_l1]
  rcases hp with hF | ⟨p, f, a1, mc1, mr1, hA, hB⟩
  · left
    obtain ⟨F, mc4, mr4, n4, b1, b2, b3, b4, b5, b6, b7, b8, b9, b10, b11⟩ := OutF_le hF he
    refine ⟨F, mc4, mr4, n4, b1, b2, ?_, b4, b5, b6, b7, b8, b9, b10, b11⟩
    obtain ⟨jf, hj, _⟩ := FU_j
    rw [b3, q_bd1, if_neg i1]
    unfold f_X0_chain_J31
    rw [hj, l35_no (F_nz b1 b2 b4)]
  · have q1 := hA.2.2.1
    have q2 := hA.2.2.2.2.1
    rw [hB, q_bd1, if_neg i1]
    unfold f_X0_chain_J31
    refine loopC hlev h (by omega) hu hq hn hc hU (q.1 - a1) a1 p f mc1 mr1 0 FU (Nat.le_refl _) (by show _ < 4096; omega) (by omega) (Acc_le hA he (fun hr g => ?_) id)
    rcases hlev with rfl | rfl | rfl
    · exact g0_of hr g
    · exact g2_of hr g
    · exact g3_of hr g
theorem chain1 (h : ChainOk 2 r) : ChainOk 1 r := by
  intro k hk q a u n c mc mr hu hq ha hC hn hR hc hU h88
  obtain ⟨k', rfl⟩ : ∃ x, k = x + 1 := ⟨k - 1, by omega⟩
  have hp := h k' (by omega) q a u n c mc mr hu hq ha hC hn hR hc hU (fun hl => absurd hl (by decide))
  have he : eL 1 r ≤ eL 2 r := Nat.le_succ r
  have h1 := hq.1
  have eC : ∀ Fc Fp, f_X0_chain u Fc Fp (nI 1) (nI r) mc = bd1 (Fc (nI 2) (nI r) mc) (fun m1 => f_X0_chain_L35 u Fc Fp FU (nI 1) (nI r) (nI 1) (nI 0) m1) := fun Fc Fp => by
    have e1 : nI 1 + (1 : Int32) = nI 2 := by decide
    unfold f_X0_chain f_X0_chain_J31
    rw [if_pos (by decide), e1, q_l0, q_l1]
    exact congrArg (bd1 _) (funext fun m1 => if_pos rfl)
  obtain ⟨jf, hj, hj2⟩ := FU_j
  rw [fr_1, eC]
  rcases hp with hF | ⟨p1, f, a1, mc1, mr1, hA, hB⟩
  · left
    obtain ⟨F, mc4, mr4, n4, b1, b2, b3, b4, b5, b6, b7, b8, b9, b10, b11⟩ := OutF_le hF he
    refine ⟨F, mc4, mr4, n4, b1, b2, ?_, b4, b5, b6, b7, b8, b9, b10, b11⟩
    rw [b3, q_bd1, hj, l35_no (F_nz b1 b2 b4)]
  · have hA' := hA
    obtain ⟨A0, A1, A2, A3, A4, A5, A6, A7, A8, A9, A10, A11, A12, A13, A14⟩ := hA'
    have ho := opJ (lev := 1) (by omega) A0 A7 A10 hq A6 (fun e => by have := tkC_in e; omega) (fun _ => (frQ_g A12 (by omega) (by omega) (by omega) (by show ¬ (_ ∧ r + 1 ≤ r); omega)).trans (h88 (by omega)))
    rw [hB, q_bd1, hj, f_X0_chain_L35, if_pos ((q_ltp (by omega) (by omega)).mpr (by omega)), if_pos A7.2.1]
    rcases ho with ⟨o1, o2⟩ | ⟨x, y, mr2, o1, o2, o3, o4, o5, o6, o7, o8, o9, o10⟩
    · right
      refine ⟨p1, f, a1, mc1, mr1, Acc_le hA he (fun hr g => g1_of hr g) (fun hE => ?_), ?_⟩
      · obtain ⟨E1, E2, E3, E4⟩ := hE
        obtain ⟨O1, O2, O3, O4⟩ := o2
        exact ⟨fun _ => E1 (by omega), fun _ => E2 (by omega), fun _ e => absurd e (fun e2 => e2.elim (O3 rfl).1 (O3 rfl).2), fun e => absurd e (by decide)⟩
      · rw [o1, q_bd2, if_pos rfl]
    · have hin := tkC_in o3
      have hnx := nxT_lt o3
      have hnl := nxT_le A6
      obtain ⟨mc2, v1, v2, v3⟩ := cs_adv hu A7 hq A6
      have hA1 : Acc (G2 r) (EE 2 q r) q u n c r r (eL 1 r) a mc mr (fun k => f_X11_reads_L11 k (nI r) (1 : Int32) mr) p1 f a1 mc1 mr1 := Acc_le hA he (fun _ g => g) id
      have hin2 := h k' (by omega) q (nxT q a1) u (n + p1.length) (c + f.length + 1) mc2 mr2 hu hq hnl v2 (by omega) o6 (by omega) (uw_q (uw_q hU A12) o10) (fun hl => absurd hl (by decide))
      rw [o1, q_bd2, if_neg o2, v1, q_bd1, show nI 1 + (1 : Int32) = nI 2 from by decide, bd1_2]
      rcases hin2 with hF | ⟨p2, f2, a3, mc3, mr3, hB1, hB2⟩
      · left
        obtain ⟨F, mc4, mr4, n4, b1, b2, b3, b4, b5, b6, b7, b8, b9, b10, b11⟩ := join_F (y := x) hu hq hA1 o3 o5 o10 v3 hF he
        refine ⟨F, mc4, mr4, n4, b1, b2, ?_, b4, b5, b6, b7, b8, b9, b10, b11⟩
        obtain ⟨j2, rfl⟩ : ∃ x, jf = x + 1 := ⟨jf - 1, by omega⟩
        rw [b3, q_bd1, l35_no (F_nz b1 b2 b4)]
      · right
        obtain ⟨E1, E2, E3, E4⟩ := hB1.2.2.2.2.2.2.2.2.2.2.2.2.2.1
        have hc3 : gI mr3 88 r = 1 := (frQ_g hB1.2.2.2.2.2.2.2.2.2.2.2.2.1 (by omega) (by omega) (by omega) (by show ¬ (_ ∧ r + 1 ≤ r); omega)).trans (o9 rfl)
        obtain ⟨mc4, d1, d2⟩ := join_S (G3 := G1 r) (E3 := EE 1 q r) hu hq hn hA1 o3 o5 o7 o10 v3 hB1 he (o4 _ _ _ _ A1 hB1.2.1) ⟨fun _ => E1 (by omega), fun _ => E2 (by omega), fun _ _ e => absurd (hc3.symm.trans e) (by decide), fun e => absurd e (by decide)⟩
        refine ⟨_, _, a3, mc4, mr3, d2, ?_⟩
        obtain ⟨j2, rfl⟩ : ∃ x, jf = x + 1 := ⟨jf - 1, by omega⟩
        rw [hB2, q_bd1, d1, q_bd1, f_X0_chain_L35, if_neg (by decide)]
theorem chainAll (h : PartOk r) : ChainOk 0 r := chainL (Or.inl rfl) (chain1 (chainL (Or.inr (Or.inl rfl)) (chainL (Or.inr (Or.inr rfl)) (chain4 h))))
/-- the leaf in hand, by the class -/
def lcI (k : Nat) : Int32 := if k = 1 then -2 else if k = 2 then -3 else if k = 3 then -4 else if k = 4 then -5 else -1
theorem c_leaf (h : CTk q a m) (hq : TW q) (ha : a ≤ q.1) : f_X0_leafInHand u m = some (if tkC q a = 3 then nI (tkV q a) else lcI (lfq q a), m) := by
  have hC := tkC_le (q := q) (a := a)
  have w1 : f_X7_isWord 1011 m = _ := c_word (p := 11) h hq ha (by omega)
  have w2 : f_X7_isWord 1012 m = _ := c_word (p := 12) h hq ha (by omega)
  have w3 : f_X7_isWord 1013 m = _ := c_word (p := 13) h hq ha (by omega)
  have w4 : f_X7_isWord 1014 m = _ := c_word (p := 14) h hq ha (by omega)
  unfold f_X0_leafInHand
  by_cases k3 : tkC q a = 3
  · rw [if_pos (by rw [h.2.1, k3]; rfl), if_pos k3, h.2.2.2.2]
  · rw [if_neg (by rw [h.2.1]; exact fun e => k3 ((q_eq (b := 3) (by omega) (by omega)).mp e)), if_neg k3, w1, q_bd2]
    unfold lfq
    by_cases p1 : woP q a 2011
    · rw [if_neg (fun e => b01.mp e p1), if_pos p1]; rfl
    · rw [if_pos (b01.mpr p1), if_neg p1, w2, q_bd2]
      by_cases p2 : woP q a 2012
      · rw [if_neg (fun e => b01.mp e p2), if_pos p2]; rfl
      · rw [if_pos (b01.mpr p2), if_neg p2, w3, q_bd2]
        by_cases p3 : woP q a 2013
        · rw [if_neg (fun e => b01.mp e p3), if_pos p3]; rfl
        · rw [if_pos (b01.mpr p3), if_neg p3, w4, q_bd2]
          by_cases p4 : woP q a 2014
          · rw [if_neg (fun e => b01.mp e p4), if_pos p4]; rfl
          · rw [if_pos (b01.mpr p4), if_neg p4]; rfl
theorem lc_ne (h : k ≠ 0) (h2 : k ≤ 4) : ¬ lcI k = (-1 : Int32) := by
  have hs : k = 1 ∨ k = 2 ∨ k = 3 ∨ k = 4 := by omega
  rcases hs with rfl | rfl | rfl | rfl <;> decide
end PartS
