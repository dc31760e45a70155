/-! MATH HALF: a line with a block; all lines of an array -/
def kdN (q : Tq) (a : Nat) : Nat := if woP q a 2004 then 0 else if woP q a 2005 then 1 else if woP q a 2006 then 2 else if woP q a 2007 then 3 else 4
def upK (T : Lv) (B k : Nat) : Lv := fun c j => if c = 1 ∧ j = B then k else T c j
def upB (T : Lv) (B k s : Nat) (M : Nat → Nat) : Lv := fun c j => if c = 0 ∧ j = 1 then B + 1 else if c = 1 ∧ j = B then k else if c = 2 ∧ j = B then s else if c = 3 ∧ 5 * B ≤ j then M (j - 5 * B) else T c j
section Block2
variable {q : Tq} {a b c d e i j k n s u x sp D B : Nat} {m m2 m3 mc mr : Mm} {y z v : Int32} {v2 : Nat} {p f : List Int32} {T T2 : Lv} {M : Nat → Nat} {oc : Option Mm} {or' : Option (Int32 × Mm)}
theorem kd_le : kdN q a ≤ 4 := by
  unfold kdN
  repeat' split
  all_goals omega
theorem kd_C (h : kdN q a ≠ 4) : tkC q a = 2 := by
  by_cases k : tkC q a = 2
  · exact k
  · have hw : ∀ x, ¬ woP q a x := fun x hx => k hx.1
    exfalso
    apply h
    unfold kdN
    rw [if_neg (hw _), if_neg (hw _), if_neg (hw _), if_neg (hw _)]
theorem c_kind (h : CTk q a m) (hq : TW q) (ha : a ≤ q.1) : f_X0_kindInHand u m = some (if kdN q a = 4 then mo else nI (kdN q a), m) := by
  have w1 : f_X7_isWord 1004 m = _ := c_word (p := 4) h hq ha (by omega)
  have w2 : f_X7_isWord 1005 m = _ := c_word (p := 5) h hq ha (by omega)
  have w3 : f_X7_isWord 1006 m = _ := c_word (p := 6) h hq ha (by omega)
  have w4 : f_X7_isWord 1007 m = _ := c_word (p := 7) h hq ha (by omega)
  unfold f_X0_kindInHand kdN
  rw [w1, q_bd2]
  by_cases p1 : woP q a 2004
  · rw [if_neg (fun e => b01.mp e p1), if_pos p1]; rfl
  · rw [if_pos (b01.mpr p1), if_neg p1, w2, q_bd2]
    by_cases p2 : woP q a 2005
    · rw [if_neg (fun e => b01.mp e p2), if_pos p2]; rfl
    · rw [if_pos (b01.mpr p2), if_neg p2, w3, q_bd2]
      by_cases p3 : woP q a 2006
      · rw [if_neg (fun e => b01.mp e p3), if_pos p3]; rfl
      · rw [if_pos (b01.mpr p3), if_neg p3, w4, q_bd2]
        by_cases p4 : woP q a 2007
        · rw [if_neg (fun e => b01.mp e p4), if_pos p4]; rfl
        · rw [if_pos (b01.mpr p4), if_neg p4]; rfl
theorem r_kind (h : RTk q a m) (hq : TW q) (ha : a ≤ q.1) {F : Int32 → Mm → Option (Int32 × Mm)} : bd2 (f_X11_isWord (305537 : Int64) m) (fun r3 m2 => (if r3 = 0 then bd2 (f_X11_isWord (2088914 : Int64) m2) (fun r5 m4 => (if r5 = 0 then bd2 (f_X11_isWord (191686599 : Int64) m4) (fun r7 m6 => (if r7 = 0 then bd2 (f_X11_isWord (11088176 : Int64) m6) (fun r9 m8 => (if r9 = 0 then F (-1 : Int32) m8 else F (3 : Int32) m8)) else F (2 : Int32) m6)) else F (1 : Int32) m4)) else F (0 : Int32) m2)) = F (if kdN q a = 4 then mo else nI (kdN q a)) m := by
  have w1 : f_X11_isWord (305537 : Int64) m = _ := r_word2 (p := 4) (x := 305537) h hq ha (by omega) (by decide +kernel) (by decide)
  have w2 : f_X11_isWord (2088914 : Int64) m = _ := r_word2 (p := 5) (x := 2088914) h hq ha (by omega) (by decide +kernel) (by decide)
  have w3 : f_X11_isWord (191686599 : Int64) m = _ := r_word2 (p := 6) (x := 191686599) h hq ha (by omega) (by decide +kernel) (by decide)
  have w4 : f_X11_isWord (11088176 : Int64) m = _ := r_word2 (p := 7) (x := 11088176) h hq ha (by omega) (by decide +kernel) (by decide)
  unfold kdN
  rw [w1, q_bd2]
  by_cases p1 : woP q a 2004
  · rw [if_neg (fun e => b01.mp e p1), if_pos p1]; rfl
  · rw [if_pos (b01.mpr p1), if_neg p1, w2, q_bd2]
    by_cases p2 : woP q a 2005
    · rw [if_neg (fun e => b01.mp e p2), if_pos p2]; rfl
    · rw [if_pos (b01.mpr p2), if_neg p2, w3, q_bd2]
      by_cases p3 : woP q a 2006
      · rw [if_neg (fun e => b01.mp e p3), if_pos p3]; rfl
      · rw [if_pos (b01.mpr p3), if_neg p3, w4, q_bd2]
        by_cases p4 : woP q a 2007
        · rw [if_neg (fun e => b01.mp e p4), if_pos p4]; rfl
        · rw [if_pos (b01.mpr p4), if_neg p4]; rfl
theorem cS_cg : ∀ n, (∀ b, b < n → tK T b = tK T2 b) → cS T D n = cS T2 D n
  | 0, _ => rfl
  | n + 1, h => by
    show cS T D n + sN T D n = cS T2 D n + sN T2 D n
    rw [cS_cg n (fun b hb => h b (by omega))]
    unfold sN
    rw [h n (by omega)]
theorem ub_D : tD (upB T B k s M) = tD T := by unfold tD upB; rw [if_neg (by omega), if_neg (by omega), if_neg (by omega), if_neg (by omega)]
theorem ub_B : tB (upB T B k s M) = B + 1 := by unfold tB upB; rw [if_pos ⟨rfl, rfl⟩]
theorem ub_P : tP (upB T B k s M) = tP T := by unfold tP upB; rw [if_neg (by omega), if_neg (by omega), if_neg (by omega), if_neg (by omega)]
theorem ub_K : tK (upB T B k s M) B = k := by unfold tK upB; rw [if_neg (by omega), if_pos ⟨rfl, rfl⟩]
theorem ub_Kn (h : b ≠ B) : tK (upB T B k s M) b = tK T b := by unfold tK upB; rw [if_neg (by omega), if_neg (by omega), if_neg (by omega), if_neg (by omega)]
theorem ub_Z : tZ (upB T B k s M) B = s := by unfold tZ upB; rw [if_neg (by omega), if_neg (by omega), if_pos ⟨rfl, rfl⟩]
theorem ub_Zn (h : b ≠ B) : tZ (upB T B k s M) b = tZ T b := by unfold tZ upB; rw [if_neg (by omega), if_neg (by omega), if_neg (by omega), if_neg (by omega)]
theorem ub_M : tM (upB T B k s M) (5 * B + i) = M i := by unfold tM upB; rw [if_neg (by omega), if_neg (by omega), if_neg (by omega), if_pos (by omega), Nat.add_sub_cancel_left]
theorem ub_Mn (h : i < 5 * B) : tM (upB T B k s M) i = tM T i := by unfold tM upB; rw [if_neg (by omega), if_neg (by omega), if_neg (by omega), if_neg (by omega)]
theorem ub_W (hW : WTo T) (hB : tB T = B) (hB6 : B < 6) (hk : k ≤ 3) (h2 : 2 ≤ s) (h5 : s ≤ 5) (hM : ∀ i, i < s → M i < tD T) (hMi : ∀ i j, i < s → j < s → M i = M j → i = j) : WTo (upB T B k s M) := by
  obtain ⟨w1, w2, w3, w4, w5, w6, w7, w8, w9⟩ := hW
  have hD := hM 0 (by omega)
  refine ⟨?_, ?_, ?_, ?_, ?_, ?_, fun b hb => ?_, fun b v hb hv => ?_, fun b v w hb hv hw he => ?_⟩
  · rw [ub_D]; exact w1
  · rw [ub_D]; exact w2
  · rw [ub_B]; omega
  · rw [ub_D]; intro _; omega
  · rw [ub_P]; exact w5
  · rw [ub_P]; exact w6
  · rw [ub_B] at hb
    by_cases e : b = B
    · rw [e, ub_K, ub_Z]; omega
    · rw [ub_Kn e, ub_Zn e]; exact w7 b (by omega)
  · rw [ub_B] at hb
    rw [ub_D]
    by_cases e : b = B
    · rw [e, ub_Z] at hv
      rw [e, ub_M]; exact hM v hv
    · rw [ub_Zn e] at hv
      have := w7 b (by omega)
      rw [ub_Mn (by omega)]
      exact w8 b v (by omega) hv
  · rw [ub_B] at hb
    by_cases e : b = B
    · rw [e, ub_Z] at hv hw
      rw [e, ub_M, ub_M] at he
      exact hMi v w hv hw he
    · rw [ub_Zn e] at hv hw
      have := w7 b (by omega)
      rw [ub_Mn (by omega), ub_Mn (by omega)] at he
      exact w9 b v w (by omega) hv hw he
theorem frU_b (h1 : frU u m m2) (h2 : frBC u B m2 m3) : frU u m m3 := ⟨h2.1.trans h1.1, fun b i k1 k2 => (h2.2 b i k1 (by omega) (by omega) (by omega)).trans (h1.2 b i k1 k2)⟩
theorem frT_b (h1 : frT m m2) (h2 : frBR B m2 m3) : frT m m3 := ⟨fun b i k => (h2.1 b i k).trans (h1.1 b i k), fun b i k1 k2 k3 k4 k5 k6 k7 => (h2.2 b i (by omega) (by omega) (by omega) (by omega)).trans (h1.2 b i k1 k2 k3 k4 k5 k6 k7)⟩
theorem ln_block (hq : TW q) (hu : u = 3 ∨ u = 10) (hC0 : tkC q a ≠ 0) (h : ArS q u T sp p f a mc mr) : LnF u mc mr (f_X0_blockLine u mc) (f_X11_readsBlock mr) ∨ LnS q u a mc mr (f_X0_blockLine u mc) (f_X11_readsBlock mr) := by
  obtain ⟨ha, ⟨hc, h0⟩, hr, hTC, hTR, hLC, hLR, ⟨hW, hS, hP, hsp⟩, hG, hp, hf⟩ := h
  have hq1 := hq.1
  have hB6 := hW.2.2.1
  have hD := hW.2.1
  have i4 : ix (4 : Int32) = 4 := rfl
  obtain ⟨T1, T2', T3, T4, T5, T6⟩ := hTC
  obtain ⟨R1, R2, R3, R4, R5, R6, R7⟩ := hTR
  unfold f_X0_blockLine f_X11_readsBlock
  rw [i4, T3, R4, q_l6, nI_add]
  by_cases h6 : tB T = 6
  · left
    rw [h6, if_neg (by decide), if_pos (by rfl), bd1_id, q_l5, fails_gd hr]
    exact ln_now hq ha hc h0 hr (by omega) (by omega) frU_r frT_r
  · rw [if_pos ((q_ltp (by omega) (by omega)).mpr (by omega)), if_neg (show ¬ nI (6 + tB T) = (12 : Int32) from fun e => absurd ((q_eq (b := 12) (by omega) (by omega)).mp e) (by omega))]
    obtain ⟨mc1, c1, c2, c3⟩ := c_adv2 hc hq ha
    obtain ⟨mr1, r1, r2, r3⟩ := r_next2 hr hq ha
    have a1 := nxT_le ha
    have l1 := nxT_lt hC0
    have z1 : gI mc1 1 6 = 0 := (mc_g c3 (by omega)).trans h0
    have hk4 := kd_le (q := q) (a := nxT q a)
    rw [c1, q_bd1, r1, q_bd1, c_kind c2 hq a1, q_bd2, r_kind r2 hq a1 (F := fun x m => f_X11_readsBlock_J88 (nI (6 + tB T)) x (nI (6 + tB T)) m)]
    unfold f_X11_readsBlock_J88
    rw [q_gd (by omega) (by omega), q_ix (by omega), q_stI, g_eq]
    by_cases k4 : kdN q (nxT q a) = 4
    · left
      have r2' : RTk q (nxT q a) (sI mr1 81 (6 + tB T) mo) := RTk_s r2 (by omega)
      rw [if_pos k4, if_pos (show mo = (-1 : Int32) from rfl), q_gd (by omega) (by omega), if_pos (show mo < (0 : Int32) by decide), bd1_id, q_l1, fails_gd r2']
      exact ln_now hq a1 c2 z1 r2' (by omega) (by omega) (frU_m frU_r c3) (frT_s (frT_m frT_r r3) (by omega))
    · have hC1 := kd_C k4
      have l2 := nxT_lt (q := q) (a := nxT q a) (by rw [hC1]; decide)
      have a2 := nxT_le a1
      have nm : ¬ nI (kdN q (nxT q a)) = (-1 : Int32) := fun e => by
        have e2 : nI (kdN q (nxT q a)) = mo := e
        rw [q_moe (by omega)] at e2
        exact e2
      have r2' : RTk q (nxT q a) (sI mr1 81 (6 + tB T) (nI (kdN q (nxT q a)))) := RTk_s r2 (by omega)
      obtain ⟨mc2, d1, d2, d3⟩ := c_adv2 c2 hq a1
      obtain ⟨mr2, s1, s2, s3⟩ := r_next2 r2' hq a1
      have gB : gI mc2 u 2 = nI (tB T) := (mc_g d3 (by omega)).trans ((mc_g c3 (by omega)).trans T3)
      have gB2 : gI (sI mc2 (u + 1) (tB T) (nI (kdN q (nxT q a)))) u 2 = nI (tB T) := by rw [g_ne (by omega)]; exact gB
      rw [if_neg k4, if_neg nm, d1, q_bd1, gB, q_gd (by omega) (by omega), q_ix (by omega), q_stI, gB2, q_gd (by omega) (by omega), q_ix (by omega), q_stI, q_gd (by omega) (by omega), if_neg (nI_pos (by show _ < 2147483648; omega)), s1, q_bd1, q_gd (by omega) (by omega), q_stI]
      -- the state within the block
      have hcB : CTk q (nxT q (nxT q a)) (sI (sI mc2 (u + 1) (tB T) (nI (kdN q (nxT q a)))) (u + 2) (tB T) (0 : Int32)) := CTk_s (CTk_s d2 (by omega)) (by omega)
      have hrB : RTk q (nxT q (nxT q a)) (sI mr2 82 (6 + tB T) (0 : Int32)) := RTk_s s2 (by omega)
      have fC : frU u mc (sI (sI mc2 (u + 1) (tB T) (nI (kdN q (nxT q a)))) (u + 2) (tB T) (0 : Int32)) := frU_s (frU_s (frU_m (frU_m frU_r c3) d3) (by omega)) (by omega)
      have fR : frT mr (sI mr2 82 (6 + tB T) (0 : Int32)) := frT_s (frT_m (frT_s (frT_m frT_r r3) (by omega)) s3) (by omega)
      have gc : ∀ b i, ¬ (b = 1 ∧ 2 ≤ i ∧ i ≤ 5) → ¬ ((b = u + 1 ∨ b = u + 2) ∧ i = tB T) → gI (sI (sI mc2 (u + 1) (tB T) (nI (kdN q (nxT q a)))) (u + 2) (tB T) (0 : Int32)) b i = gI mc b i := fun b i k1 k2 => by
        rw [g_ne (by omega), g_ne (by omega), mc_g d3 (by omega), mc_g c3 (by omega)]
      have gr : ∀ b i, ¬ (b = 78 ∧ (i = 4 ∨ i = 5 ∨ i = 6 ∨ i = 8)) → ¬ ((b = 81 ∨ b = 82) ∧ i = 6 + tB T) → gI (sI mr2 82 (6 + tB T) (0 : Int32)) b i = gI mr b i := fun b i k1 k2 => by
        rw [g_ne (by omega), mv_g s3 (by omega), g_ne (by omega), mv_g r3 (by omega)]
      have gcK : gI (sI (sI mc2 (u + 1) (tB T) (nI (kdN q (nxT q a)))) (u + 2) (tB T) (0 : Int32)) (u + 1) (tB T) = nI (kdN q (nxT q a)) := by rw [g_ne (by omega), g_eq]
      have grK : gI (sI mr2 82 (6 + tB T) (0 : Int32)) 81 (6 + tB T) = nI (kdN q (nxT q a)) := by rw [g_ne (by omega), mv_g s3 (by omega), g_eq]
      have gcZ : gI (sI (sI mc2 (u + 1) (tB T) (nI (kdN q (nxT q a)))) (u + 2) (tB T) (0 : Int32)) (u + 2) (tB T) = nI 0 := g_eq
      have grZ : gI (sI mr2 82 (6 + tB T) (0 : Int32)) 82 (6 + tB T) = nI 0 := g_eq
      generalize sI (sI mc2 (u + 1) (tB T) (nI (kdN q (nxT q a)))) (u + 2) (tB T) (0 : Int32) = mc3 at hcB fC gc gcK gcZ
      generalize sI mr2 82 (6 + tB T) (0 : Int32) = mr3 at hrB fR gr grK grZ
      have uK : tK (upK T (tB T) (kdN q (nxT q a))) (tB T) = kdN q (nxT q a) := by unfold tK upK; rw [if_pos ⟨rfl, rfl⟩]
      have uKn : ∀ b, b ≠ tB T → tK (upK T (tB T) (kdN q (nxT q a))) b = tK T b := fun b hb => by unfold tK upK; rw [if_neg (by omega)]
      have hL := blkL (T := upK T (tB T) (kdN q (nxT q a))) hu hq (B := tB T) (D := tD T) (by omega) hD (fun b hb => by
        by_cases e : b = tB T
        · rw [e, uK]; omega
        · rw [uKn b e]
          exact (hW.2.2.2.2.2.2.1 b (by omega)).1) 6 0 (fun _ => 0) (nxT q (nxT q a)) mc3 mr3 FU FU (by omega) (by show 6 < 4096; omega) (by show 6 < 4096; omega) ⟨a2, ⟨hcB, (gc _ _ (by omega) (by omega)).trans h0⟩, hrB, ⟨(gc _ _ (by omega) (by omega)).trans T1, (gc _ _ (by omega) (by omega)).trans T3, gcZ, fun i hi => absurd hi (by omega)⟩, ⟨(gr _ _ (by omega) (by omega)).trans R1, (gr _ _ (by omega) (by omega)).trans R4, grZ, fun i hi => absurd hi (by omega)⟩, by omega, fun i hi => absurd hi (by omega), fun i j hi => absurd hi (by omega)⟩ (fun b hb => by
        by_cases e : b = tB T
        · rw [e, uK]; exact gcK
        · rw [uKn b e, gc _ _ (by omega) (by omega)]
          exact T4 b (by omega)) (fun b hb => by
        by_cases e : b = tB T
        · rw [e, uK]; exact grK
        · rw [uKn b e, gr _ _ (by omega) (by omega)]
          exact R5 b (by omega))
      have e0 : nI (sbM (fun _ => 0) 0) = (0 : Int32) := rfl
      have e00 : nI 0 = (0 : Int32) := rfl
      rw [e0, e00] at hL
      rcases hL with ⟨F, mc4, mr4, b1, b2, b3, b4, b5, b6, b7, b8⟩ | ⟨s, M, a3, mc4, mr4, b1, b2, b3, b4, ⟨b5, b5'⟩, b6, b7, b8, b9, b10, ⟨x1, x2, x3, x4⟩, ⟨y1, y2, y3, y4⟩, b13, b14, b15⟩
      · left
        exact ⟨F, mc4, mr4, b1, b2, b3, b4, frU_b fC b5, b6, b7, frT_b fR b8⟩
      · right
        have hc4 : ∀ b i, ¬ (b = 1 ∧ 2 ≤ i ∧ i ≤ 6) → ¬ (b = u ∧ i = 2) → ¬ ((b = u + 1 ∨ b = u + 2) ∧ i = tB T) → ¬ (b = u + 3 ∧ 5 * tB T ≤ i) → gI mc4 b i = gI mc b i := fun b i k1 k2 k3 k4 => (show gI mc4 b i = _ from b14.2 b i k1 k2 k3 k4).trans (gc b i (by omega) (by omega))
        have hr4 : ∀ b i, ¬ (b = 78 ∧ 4 ≤ i ∧ i ≤ 9) → ¬ (b = 80 ∧ i = 4) → ¬ ((b = 81 ∨ b = 82) ∧ i = 6 + tB T) → ¬ (b = 83 ∧ 30 + 5 * tB T ≤ i) → gI mr4 b i = gI mr b i := fun b i k1 k2 k3 k4 => (show gI mr4 b i = _ from b15.2 b i k1 k2 k3 k4).trans (gr b i (by omega) (by omega))
        have w7 := hW.2.2.2.2.2.2.1
        refine ⟨upB T (tB T) (kdN q (nxT q a)) s M, sp, p, f, a3, mc4, mr4, by omega, b3, b4, ⟨b2, ⟨b5, b5'⟩, b6, ⟨?_, (hc4 _ _ (by omega) (by omega) (by omega) (by omega)).trans T2', ?_, fun b hb => ?_, fun b hb => ?_, fun b v hb hv => ?_⟩, ⟨?_, ?_, (hr4 _ _ (by omega) (by omega) (by omega) (by omega)).trans R3, ?_, fun b hb => ?_, fun b hb => ?_, fun b v hb hv => ?_⟩, LwC_g hLC (fun b i hb => hc4 _ _ (by omega) (by omega) (by omega) (by omega)), LwR_g hLR (fun b i hb => hr4 _ _ (by omega) (by omega) (by omega) (by omega)), ⟨ub_W hW rfl (by omega) (by omega) b7 b8 b9 b10, ?_, by rw [ub_P]; exact hP, hsp⟩, hG, by omega, by omega⟩, frU_b fC b14, frT_b fR b15⟩
        · rw [ub_D]; exact (hc4 _ _ (by omega) (by omega) (by omega) (by omega)).trans T1
        · rw [ub_B]; exact x1
        · rw [ub_B] at hb
          by_cases e : b = tB T
          · rw [e, ub_K]; exact x2.trans gcK
          · rw [ub_Kn e, hc4 _ _ (by omega) (by omega) (by omega) (by omega)]; exact T4 b (by omega)
        · rw [ub_B] at hb
          by_cases e : b = tB T
          · rw [e, ub_Z]; exact x3
          · rw [ub_Zn e, hc4 _ _ (by omega) (by omega) (by omega) (by omega)]; exact T5 b (by omega)
        · rw [ub_B] at hb
          by_cases e : b = tB T
          · rw [e, ub_Z] at hv
            rw [e, ub_M]; exact x4 v hv
          · rw [ub_Zn e] at hv
            have := w7 b (by omega)
            rw [ub_Mn (by omega), hc4 _ _ (by omega) (by omega) (by omega) (by omega)]; exact T6 b v (by omega) hv
        · rw [ub_D]; exact (hr4 _ _ (by omega) (by omega) (by omega) (by omega)).trans R1
        · rw [ub_P]; exact (hr4 _ _ (by omega) (by omega) (by omega) (by omega)).trans R2
        · rw [ub_B]; exact y1
        · rw [ub_B] at hb
          by_cases e : b = tB T
          · rw [e, ub_K]; exact y2.trans grK
          · rw [ub_Kn e, hr4 _ _ (by omega) (by omega) (by omega) (by omega)]; exact R5 b (by omega)
        · rw [ub_B] at hb
          by_cases e : b = tB T
          · rw [e, ub_Z]; exact y3
          · rw [ub_Zn e, hr4 _ _ (by omega) (by omega) (by omega) (by omega)]; exact R6 b (by omega)
        · rw [ub_B] at hb
          by_cases e : b = tB T
          · rw [e, ub_Z] at hv
            rw [e, ub_M]; exact y4 v hv
          · rw [ub_Zn e] at hv
            have := w7 b (by omega)
            rw [ub_Mn (by omega), hr4 _ _ (by omega) (by omega) (by omega) (by omega)]; exact R7 b v (by omega) hv
        · rw [ub_D, ub_B, cS_cg (T2 := upK T (tB T) (kdN q (nxT q a))) (tB T + 1) (fun b hb => by
            by_cases e : b = tB T
            · rw [e, ub_K, uK]
            · rw [ub_Kn e, uKn b e])]
          exact b13
end Block2
