/-! MATH HALF: time -/
/-- a long as a set -/
def BL (x : Int64) (q : Nat → Bool) : Prop := ∀ k, k < 64 → x.toBitVec.getLsbD k = q k
theorem bl_one : ∀ k, k < 64 → ((1 : Int64) <<< ((nI k).toInt64 &&& 63)).toBitVec = BitVec.twoPow 64 k := by decide +kernel
theorem bl_sm : ∀ k, k < 64 → (((nI k).toInt64 &&& 63).toBitVec.smod 64).toNat = k := by decide +kernel
theorem bl_tst {x : Int64} {q : Nat → Bool} (h : BL x q) {k : Nat} (hk : k < 64) : lg_cmp ((x >>> ((nI k).toInt64 &&& 63)) &&& 1) 0 = 0 ↔ q k = false := by
  have e0 : ∀ y : Int64, lg_cmp y 0 = 0 ↔ y = 0 := fun y => by
    unfold lg_cmp
    by_cases h1 : y > 0
    · rw [if_pos h1]
      constructor
      · intro h2; exact absurd h2 (by decide)
      · intro h2; subst h2; exact absurd h1 (by decide)
    · rw [if_neg h1]
      by_cases h2 : y = 0
      · rw [if_pos h2]; exact ⟨fun _ => h2, fun _ => rfl⟩
      · rw [if_neg h2]
        exact ⟨fun h3 => absurd h3 (by decide), fun h3 => absurd h3 h2⟩
  rw [e0, ← h k hk, ← Int64.toBitVec_inj, Int64.toBitVec_and, Int64.toBitVec_shiftRight]
  show (x.toBitVec.sshiftRight ((((nI k).toInt64 &&& 63).toBitVec.smod 64).toNat)) &&& 1#64 = 0#64 ↔ _
  rw [bl_sm k hk]
  have e1 : (x.toBitVec.sshiftRight k).getLsbD 0 = x.toBitVec.getLsbD k := by
    rw [BitVec.getLsbD_sshiftRight]
    simp [hk]
  constructor
  · intro h2
    have t := congrArg (fun z => z.getLsbD 0) h2
    rw [BitVec.getLsbD_and, e1] at t
    simpa using t
  · intro h2
    apply BitVec.eq_of_getLsbD_eq
    intro i hi
    cases i with
    | zero => rw [BitVec.getLsbD_and, e1, h2]; simp
    | succ i => simp
theorem bl_set {x : Int64} {q : Nat → Bool} (h : BL x q) {k : Nat} (hk : k < 64) : BL (x ||| ((1 : Int64) <<< ((nI k).toInt64 &&& 63))) (fun i => if i = k then true else q i) := fun i hi => by
  rw [Int64.toBitVec_or, bl_one k hk, BitVec.getLsbD_or, BitVec.getLsbD_twoPow, h i hi]
  by_cases e : i = k
  · subst e; simp [hi]
  · have e2 : ¬ k = i := fun h => e h.symm
    simp [e, e2]
theorem bl_clr {x : Int64} {q : Nat → Bool} (h : BL x q) {k : Nat} (hk : k < 64) : BL (x &&& (((1 : Int64) <<< ((nI k).toInt64 &&& 63)) ^^^ (-1))) (fun i => if i = k then false else q i) := fun i hi => by
  have ha : (-1 : Int64).toBitVec = BitVec.allOnes 64 := by decide
  rw [Int64.toBitVec_and, Int64.toBitVec_xor, bl_one k hk, ha, BitVec.getLsbD_and, BitVec.getLsbD_xor, BitVec.getLsbD_twoPow, BitVec.getLsbD_allOnes, h i hi]
  by_cases e : i = k
  · subst e; simp [hi]
  · have e2 : ¬ k = i := fun h => e h.symm
    simp [e, e2, hi]
theorem bl_zero {x : Int64} {q : Nat → Bool} (h : BL x q) : lg_cmp x 0 = 0 ↔ ∀ k, k < 64 → q k = false := by
  have e0 : lg_cmp x 0 = 0 ↔ x = 0 := by
    unfold lg_cmp
    by_cases h1 : x > 0
    · rw [if_pos h1]
      constructor
      · intro h2; exact absurd h2 (by decide)
      · intro h2; subst h2; exact absurd h1 (by decide)
    · rw [if_neg h1]
      by_cases h2 : x = 0
      · rw [if_pos h2]; exact ⟨fun _ => h2, fun _ => rfl⟩
      · rw [if_neg h2]
        exact ⟨fun h3 => absurd h3 (by decide), fun h3 => absurd h3 h2⟩
  rw [e0]
  constructor
  · intro e k hk
    rw [← h k hk, e]
    exact BitVec.getLsbD_zero
  · intro h2
    apply Int64.toBitVec_inj.mp
    apply BitVec.eq_of_getLsbD_eq
    intro i hi
    rw [h i hi, h2 i hi]
    exact BitVec.getLsbD_zero.symm
theorem bl_0 : BL 0 (fun _ => false) := fun _ _ => BitVec.getLsbD_zero
/-- the disks that a stripe's rebuilding takes -/
abbrev bz (Λ : Lv) (d k i : Nat) : Prop := i + 1 = yQ Λ k ∨ (onK Λ k i ∧ i ≠ d)
abbrev ftP (Λ : Lv) (d k : Nat) (r : Nat → Nat) : Prop := ∀ i, i < 13 → bz Λ d k i → 0 < r i
/-- a tick: after so many stripes, what waits, what room there is -/
def tkN (Λ : Lv) (d c : Nat) (q : Nat → Bool) : Nat → (Nat → Bool) × (Nat → Nat)
  | 0 => (q, fun _ => c)
  | k + 1 => if q k = true ∧ ftP Λ d k (tkN Λ d c q k).2 then (fun i => if i = k then false else (tkN Λ d c q k).1 i, fun i => if bz Λ d k i then (tkN Λ d c q k).2 i - 1 else (tkN Λ d c q k).2 i) else tkN Λ d c q k
def tkI (Λ : Lv) (d c : Nat) (q : Nat → Bool) : Nat → (Nat → Bool)
  | 0 => q
  | n + 1 => (tkN Λ d c (tkI Λ d c q n) (yS Λ)).1
abbrev twP (Λ : Lv) (S : Sv) (d k : Nat) : Prop := lostC Λ S k = 0 ∧ awU Λ S k = mo ∧ onK Λ k d ∧ 0 < yQ Λ k ∧ upP S (yQ Λ k - 1)
def tq (Λ : Lv) (S : Sv) (d n : Nat) : Nat → Bool := fun k => decide (k < n ∧ twP Λ S d k)
section Tim
variable {Λ T : Lv} {a b x k d o n i N K z c B t u w v p s M W : Nat} {S F : Sv} {m m2 m3 : Mm} {x1 x2 x3 st : Int32} {g vl : Nat → Int32} {q : Nat → Bool} {y : Int64} {r : Nat → Nat}
theorem tk_le : ∀ {k i : Nat}, (tkN Λ d c q k).2 i ≤ c
  | 0, _ => Nat.le_refl _
  | k + 1, i => by
    have ih := tk_le (k := k) (i := i)
    unfold tkN
    split
    · dsimp only
      split <;> omega
    · exact ih
theorem tk_sub : ∀ {k i : Nat}, (tkN Λ d c q k).1 i = true → q i = true
  | 0, _ => fun h => h
  | k + 1, i => fun h => by
    unfold tkN at h
    split at h
    · dsimp only at h
      split at h
      · exact absurd h (by decide)
      · exact tk_sub h
    · exact tk_sub h
theorem tk_same : ∀ {k i : Nat}, k ≤ i → (tkN Λ d c q k).1 i = q i
  | 0, _ => fun _ => rfl
  | k + 1, i => fun h => by
    have ih := tk_same (k := k) (i := i) (by omega)
    unfold tkN
    split
    · dsimp only
      rw [if_neg (by omega)]
      exact ih
    · exact ih
/-- a tick that finds one waiting rebuilds one -/
theorem tk_some (hc : 1 ≤ c) (hk : k < n) (hq : q k = true) : ∃ i, i < n ∧ q i = true ∧ (tkN Λ d c q n).1 i = false := by
  have hlt : fs (fun i => q i = true) n < n := by
    rcases Nat.lt_or_ge (fs (fun i => q i = true) n) n with h | h
    · exact h
    · exact absurd hq (fs_not (fun i => q i = true) n k (by omega))
  have his := fs_is (fun i => q i = true) n hlt
  have hno := fs_not (fun i => q i = true) n
  generalize fs (fun i => q i = true) n = i0 at hlt his hno
  have h0 : ∀ k, k ≤ i0 → tkN Λ d c q k = (q, fun _ => c) := by
    intro k
    induction k with
    | zero => intro _; rfl
    | succ k ih =>
      intro h
      unfold tkN
      rw [ih (by omega), if_neg (fun h2 => hno k (by omega) h2.1)]
  have h1 : (tkN Λ d c q (i0 + 1)).1 i0 = false := by
    unfold tkN
    rw [h0 i0 (Nat.le_refl _), if_pos ⟨his, fun i _ _ => by show 0 < c; omega⟩]
    dsimp only
    rw [if_pos rfl]
  have h2 : ∀ k, i0 + 1 ≤ k → (tkN Λ d c q k).1 i0 = false := by
    intro k
    induction k with
    | zero => intro h; omega
    | succ k ih =>
      intro h
      by_cases hk : k = i0
      · subst hk; exact h1
      · have ih2 := ih (by omega)
        unfold tkN
        split
        · dsimp only
          rw [if_neg (fun e => hk e.symm)]
          exact ih2
        · exact ih2
  exact ⟨i0, hlt, his, h2 n (by omega)⟩
abbrev qc (q : Nat → Bool) (n : Nat) : Nat := ct (fun i => q i = true) n
theorem tk_less (hc : 1 ≤ c) (h : qc q (yS Λ) ≠ 0) : qc (tkN Λ d c q (yS Λ)).1 (yS Λ) < qc q (yS Λ) := by
  have hlt := ct_one h
  have his := fs_is (fun i => q i = true) (yS Λ) hlt
  obtain ⟨i, h1, h2, h3⟩ := tk_some (Λ := Λ) (d := d) hc hlt his
  exact (ct_imp_lt (fun i _ h => tk_sub h)).mpr ⟨i, h1, h2, by rw [h3]; decide⟩
theorem tkI_le (hc : 1 ≤ c) : ∀ n, qc (tkI Λ d c q n) (yS Λ) = 0 ∨ qc (tkI Λ d c q n) (yS Λ) + n ≤ qc q (yS Λ)
  | 0 => Or.inr (Nat.le_refl _)
  | n + 1 => by
    rcases tkI_le hc n with h | h
    · left
      have h2 : qc (tkI Λ d c q (n + 1)) (yS Λ) ≤ qc (tkI Λ d c q n) (yS Λ) := ct_imp_le (fun i _ h => tk_sub h)
      omega
    · by_cases h0 : qc (tkI Λ d c q n) (yS Λ) = 0
      · left
        have h2 : qc (tkI Λ d c q (n + 1)) (yS Λ) ≤ qc (tkI Λ d c q n) (yS Λ) := ct_imp_le (fun i _ h => tk_sub h)
        omega
      · right
        have := tk_less (Λ := Λ) (d := d) hc h0
        show qc (tkN Λ d c (tkI Λ d c q n) (yS Λ)).1 (yS Λ) + (n + 1) ≤ _
        omega
theorem tkI_far (hW : WL1 Λ) (hq : ∀ i, yS Λ ≤ i → q i = false) : ∀ n i, yS Λ ≤ i → tkI Λ d c q n i = false
  | 0, i, h => hq i h
  | n + 1, i, h => by
    show (tkN Λ d c (tkI Λ d c q n) (yS Λ)).1 i = false
    rw [tk_same h]
    exact tkI_far hW hq n i h
/-- the number of ticks -/
def tkT (Λ : Lv) (d c : Nat) (q : Nat → Bool) : Nat := fs (fun n => qc (tkI Λ d c q n) (yS Λ) = 0) 41
theorem tkT_is (hW : WL1 Λ) (hc : 1 ≤ c) : tkT Λ d c q ≤ 40 ∧ qc (tkI Λ d c q (tkT Λ d c q)) (yS Λ) = 0 := by
  have h40 := hW.2.1
  have hlt : fs (fun n => qc (tkI Λ d c q n) (yS Λ) = 0) 41 < 41 := by
    rcases Nat.lt_or_ge (fs (fun n => qc (tkI Λ d c q n) (yS Λ) = 0) 41) 41 with h | h
    · exact h
    · have h1 := fs_not (fun n => qc (tkI Λ d c q n) (yS Λ) = 0) 41 40 (by omega)
      rcases tkI_le (Λ := Λ) (d := d) (c := c) (q := q) hc 40 with h2 | h2
      · exact absurd h2 h1
      · have h3 : qc q (yS Λ) ≤ yS Λ := ct_le _ _
        have h4 : qc (tkI Λ d c q 40) (yS Λ) = 0 := by omega
        exact absurd h4 h1
  exact ⟨by unfold tkT; omega, fs_is (fun n => qc (tkI Λ d c q n) (yS Λ) = 0) 41 hlt⟩
theorem tkT_no (h : n < tkT Λ d c q) : qc (tkI Λ d c q n) (yS Λ) ≠ 0 := fs_not (fun n => qc (tkI Λ d c q n) (yS Λ) = 0) 41 n h
theorem qc_all (h : qc q (yS Λ) = 0) (hq : ∀ i, yS Λ ≤ i → q i = false) : ∀ i, q i = false := fun i => by
  by_cases hi : i < yS Λ
  · cases hb : q i
    · rfl
    · have := ct_pos (p := fun i => q i = true) hi hb
      exact absurd h (by unfold qc; omega)
  · exact hq i (by omega)
/-! the class -/
def rm (r : Nat → Nat) (g : Nat → Int32) : Nat → Int32 := fun i => if i < 13 then nI (r i) else g i
def busyN (Λ : Lv) (d k : Nat) : Nat := lb (fun i => bz Λ d k i) 13
theorem busy_bit (hi : i < 13) : (busyN Λ d k).testBit i = true ↔ bz Λ d k i := by
  unfold busyN
  rw [lb_bit]
  exact ⟨fun h => h.2, fun h => ⟨hi, h⟩⟩
theorem busy_lt : busyN Λ d k < 8192 := lb_lt _ 13
theorem busy_eq (hW : WL1 Λ) (h4 : WL4 Λ) (hk : k < yS Λ) (hd : d < 13) (hq : 0 < yQ Λ k) : (nI (yM Λ k) &&& (nI (2 ^ d) ^^^ mo)) ||| nI (2 ^ (yQ Λ k - 1)) = nI (busyN Λ d k) := by
  have hM := (h4 k hk).1
  have hQ := (hW.2.2.2.1 k hk).2.2.2
  have h13 := hW.1
  have hmo : mo.toBitVec = BitVec.allOnes 32 := by decide
  have hb := busy_lt (Λ := Λ) (d := d) (k := k)
  apply Int32.toBitVec_inj.1
  apply BitVec.eq_of_getLsbD_eq
  intro i hi
  rw [Int32.toBitVec_or, Int32.toBitVec_and, Int32.toBitVec_xor, hmo]
  show ((BitVec.ofNat 32 (yM Λ k) &&& (BitVec.ofNat 32 (2 ^ d) ^^^ BitVec.allOnes 32)) ||| BitVec.ofNat 32 (2 ^ (yQ Λ k - 1))).getLsbD i = (BitVec.ofNat 32 (busyN Λ d k)).getLsbD i
  rw [BitVec.getLsbD_or, BitVec.getLsbD_and, BitVec.getLsbD_xor, BitVec.getLsbD_allOnes, BitVec.getLsbD_ofNat, BitVec.getLsbD_ofNat, BitVec.getLsbD_ofNat, BitVec.getLsbD_ofNat]
  rw [Nat.testBit_two_pow, Nat.testBit_two_pow]
  have hon := onK_bit (d := i) h4 hk
  by_cases hi13 : i < 13
  · have hbb := busy_bit (Λ := Λ) (d := d) (k := k) hi13
    have e : (busyN Λ d k).testBit i = (((yM Λ k).testBit i && !decide (d = i)) || decide (yQ Λ k - 1 = i)) := by
      rw [Bool.eq_iff_iff, hbb]
      simp only [Bool.or_eq_true, Bool.and_eq_true, decide_eq_true_eq, Bool.not_eq_true', decide_eq_false_iff_not, hon]
      constructor
      · rintro (h | ⟨h1, h2⟩)
        · right; omega
        · left; exact ⟨h1, fun e => h2 e.symm⟩
      · rintro (⟨h1, h2⟩ | h)
        · right; exact ⟨h1, fun e => h2 e.symm⟩
        · left; omega
    rw [e]
    simp [hi]
  · have e1 : (yM Λ k).testBit i = false := Nat.testBit_lt_two_pow (Nat.lt_of_lt_of_le hM (show 8192 ≤ 2 ^ i from Nat.le_trans (by decide : 8192 ≤ 2 ^ 13) (Nat.pow_le_pow_right (by decide) (by omega))))
    have e2 : (busyN Λ d k).testBit i = false := Nat.testBit_lt_two_pow (Nat.lt_of_lt_of_le hb (show 8192 ≤ 2 ^ i from Nat.le_trans (by decide : 8192 ≤ 2 ^ 13) (Nat.pow_le_pow_right (by decide) (by omega))))
    have e3 : ¬ (yQ Λ k - 1 = i) := by omega
    simp [hi, e1, e2, e3]
theorem c_canTake (hs : s < 8192) (hr : ∀ i, i < 13 → r i ≤ 9) : ((∀ i, i < 13 → s.testBit i = true → 0 < r i) → f_X5_canTake (nI s) (wr 77 (rm r g) m) = some (nI 1, wr 77 (rm r g) m)) ∧ (¬ (∀ i, i < 13 → s.testBit i = true → 0 < r i) → f_X5_canTake (nI s) (wr 77 (rm r g) m) = some (nI 0, wr 77 (rm r g) m)) := by
  have hg : ∀ i, i < 13 → gI (wr 77 (rm r g) m) 77 i = nI (r i) := fun i hi => by rw [wr_s]; unfold rm; rw [if_pos hi]
  have h := lpx (fun j i => f_X5_canTake_L2 j (nI s) (nI i) (wr 77 (rm r g) m)) (fun i => s.testBit i = true ∧ r i = 0) 0 13 (some (nI 0, wr 77 (rm r g) m)) (some (nI 1, wr 77 (rm r g) m)) (by omega) (by omega) (fun j => by
    simp (maxSteps := 500000) (disch := first | assumption | omega) only [f_X5_canTake_L2, q_l0, q_l1, q_l2, q_l3, q_l4, q_l5, q_l6, q_l7, q_l8, q_l9, q_l10, q_l11, q_l12, q_l13, q_l14, q_l15, q_l16, q_l20, q_l21, q_l22, q_l24, q_l25, q_l26, q_l27, q_l28, q_l29, q_l30, q_l31, q_l32, q_l40, q_l48, q_l57, q_l80, q_l97, q_l100, q_l120, q_l122, q_l126, q_l160, q_l200, q_l214, q_l255, q_l256, q_l374, q_l400, q_l999, q_l1000, q_l9999, q_l99, q_l99999, q_nm, q_gd, q_gd2, q_ix, q_lt, q_eq, q_m5a, q_m5b, q_m40b, q_m8a, q_m8b, q_m16b, q_m374b, q_m160b, q_m10a, q_div5, q_rem5, nI_add, q_moe, q_moe2, q_mol, q_mol2, q_mor, q_bd2, q_bd1, q_stI, q_oI0, if_true, if_false, ite_true, ite_false, ↓reduceIte, Nat.lt_irrefl, Nat.not_lt_zero, Nat.add_zero, Nat.zero_add, Nat.reduceEqDiff, Nat.reduceLeDiff, Nat.reduceLT, Nat.reduceAdd, Bool.false_eq_true, and_self, and_false, false_and, true_and, and_true, not_true_eq_false, not_false_eq_true]) (fun j i _ hi hp => by
    have t1 := q_tb (s := s) (d := i) (by omega) (by omega)
    rw [if_pos hp.1] at t1
    have e := hg i hi
    rw [hp.2] at e
    simp (maxSteps := 500000) (disch := first | assumption | omega) only [f_X5_canTake_L2, q_l0, q_l1, q_l2, q_l3, q_l4, q_l5, q_l6, q_l7, q_l8, q_l9, q_l10, q_l11, q_l12, q_l13, q_l14, q_l15, q_l16, q_l20, q_l21, q_l22, q_l24, q_l25, q_l26, q_l27, q_l28, q_l29, q_l30, q_l31, q_l32, q_l40, q_l48, q_l57, q_l80, q_l97, q_l100, q_l120, q_l122, q_l126, q_l160, q_l200, q_l214, q_l255, q_l256, q_l374, q_l400, q_l999, q_l1000, q_l9999, q_l99, q_l99999, q_nm, q_gd, q_gd2, q_ix, q_lt, q_eq, q_m5a, q_m5b, q_m40b, q_m8a, q_m8b, q_m16b, q_m374b, q_m160b, q_m10a, q_div5, q_rem5, nI_add, q_moe, q_moe2, q_mol, q_mol2, q_mor, q_bd2, q_bd1, q_stI, q_oI0, if_true, if_false, ite_true, ite_false, ↓reduceIte, Nat.lt_irrefl, Nat.not_lt_zero, Nat.add_zero, Nat.zero_add, Nat.reduceEqDiff, Nat.reduceLeDiff, Nat.reduceLT, Nat.reduceAdd, Bool.false_eq_true, and_self, and_false, false_and, true_and, and_true, not_true_eq_false, not_false_eq_true, hi, t1, e]) (fun j i _ hi hp => by
    have t1 := q_tb (s := s) (d := i) (by omega) (by omega)
    have e := hg i hi
    have hr9 := hr i hi
    by_cases p1 : s.testBit i = true
    · have p2 : ¬ r i < 1 := fun h => hp ⟨p1, by omega⟩
      rw [if_pos p1] at t1
      simp (maxSteps := 500000) (disch := first | assumption | omega) only [f_X5_canTake_L2, q_l0, q_l1, q_l2, q_l3, q_l4, q_l5, q_l6, q_l7, q_l8, q_l9, q_l10, q_l11, q_l12, q_l13, q_l14, q_l15, q_l16, q_l20, q_l21, q_l22, q_l24, q_l25, q_l26, q_l27, q_l28, q_l29, q_l30, q_l31, q_l32, q_l40, q_l48, q_l57, q_l80, q_l97, q_l100, q_l120, q_l122, q_l126, q_l160, q_l200, q_l214, q_l255, q_l256, q_l374, q_l400, q_l999, q_l1000, q_l9999, q_l99, q_l99999, q_nm, q_gd, q_gd2, q_ix, q_lt, q_eq, q_m5a, q_m5b, q_m40b, q_m8a, q_m8b, q_m16b, q_m374b, q_m160b, q_m10a, q_div5, q_rem5, nI_add, q_moe, q_moe2, q_mol, q_mol2, q_mor, q_bd2, q_bd1, q_stI, q_oI0, if_true, if_false, ite_true, ite_false, ↓reduceIte, Nat.lt_irrefl, Nat.not_lt_zero, Nat.add_zero, Nat.zero_add, Nat.reduceEqDiff, Nat.reduceLeDiff, Nat.reduceLT, Nat.reduceAdd, Bool.false_eq_true, and_self, and_false, false_and, true_and, and_true, not_true_eq_false, not_false_eq_true, hi, t1, e, p2]
    · rw [if_neg p1] at t1
      simp (maxSteps := 500000) (disch := first | assumption | omega) only [f_X5_canTake_L2, q_l0, q_l1, q_l2, q_l3, q_l4, q_l5, q_l6, q_l7, q_l8, q_l9, q_l10, q_l11, q_l12, q_l13, q_l14, q_l15, q_l16, q_l20, q_l21, q_l22, q_l24, q_l25, q_l26, q_l27, q_l28, q_l29, q_l30, q_l31, q_l32, q_l40, q_l48, q_l57, q_l80, q_l97, q_l100, q_l120, q_l122, q_l126, q_l160, q_l200, q_l214, q_l255, q_l256, q_l374, q_l400, q_l999, q_l1000, q_l9999, q_l99, q_l99999, q_nm, q_gd, q_gd2, q_ix, q_lt, q_eq, q_m5a, q_m5b, q_m40b, q_m8a, q_m8b, q_m16b, q_m374b, q_m160b, q_m10a, q_div5, q_rem5, nI_add, q_moe, q_moe2, q_mol, q_mol2, q_mor, q_bd2, q_bd1, q_stI, q_oI0, if_true, if_false, ite_true, ite_false, ↓reduceIte, Nat.lt_irrefl, Nat.not_lt_zero, Nat.add_zero, Nat.zero_add, Nat.reduceEqDiff, Nat.reduceLeDiff, Nat.reduceLT, Nat.reduceAdd, Bool.false_eq_true, and_self, and_false, false_and, true_and, and_true, not_true_eq_false, not_false_eq_true, hi, t1])
  unfold f_X5_canTake
  rw [q_l0]
  constructor
  · intro hall
    exact h.2 (fun i _ hi hp => by have := hall i hi hp.1; omega)
  · intro hall
    exact h.1 (Classical.byContradiction fun hn => hall (fun i hi hb => Classical.byContradiction fun h0 => hn ⟨i, by omega, hi, hb, by omega⟩))
theorem c_take (hs : s < 8192) (hr : ∀ i, i < 13 → r i ≤ 9) (hpos : ∀ i, i < 13 → s.testBit i = true → 0 < r i) : f_X5_take (nI s) (wr 77 (rm r g) m) = some (wr 77 (rm (fun i => if s.testBit i = true then r i - 1 else r i) g) m) := by
  let R : Nat → Nat → Int32 := fun n i => if i < n then nI (if s.testBit i = true then r i - 1 else r i) else rm r g i
  have e0 : rm r g = R 0 := by funext i; show _ = if i < 0 then _ else _; rw [if_neg (by omega)]
  have e13 : rm (fun i => if s.testBit i = true then r i - 1 else r i) g = R 13 := by
    funext i
    show (if i < 13 then _ else _) = if i < 13 then _ else (if i < 13 then _ else _)
    by_cases h : i < 13
    · rw [if_pos h, if_pos h]
    · rw [if_neg h, if_neg h, if_neg h]
  rw [e0, e13]
  refine lp0 (fun j u => f_X5_take_L2 j (nI s) (nI u) (wr 77 (R u) m)) 13 _ (fun j => ?_) (fun j u hu => ?_) (by omega)
  · simp (maxSteps := 500000) (disch := first | assumption | omega) only [f_X5_take_L2, q_l0, q_l1, q_l2, q_l3, q_l4, q_l5, q_l6, q_l7, q_l8, q_l9, q_l10, q_l11, q_l12, q_l13, q_l14, q_l15, q_l16, q_l20, q_l21, q_l22, q_l24, q_l25, q_l26, q_l27, q_l28, q_l29, q_l30, q_l31, q_l32, q_l40, q_l48, q_l57, q_l80, q_l97, q_l100, q_l120, q_l122, q_l126, q_l160, q_l200, q_l214, q_l255, q_l256, q_l374, q_l400, q_l999, q_l1000, q_l9999, q_l99, q_l99999, q_nm, q_gd, q_gd2, q_ix, q_lt, q_eq, q_m5a, q_m5b, q_m40b, q_m8a, q_m8b, q_m16b, q_m374b, q_m160b, q_m10a, q_div5, q_rem5, nI_add, q_moe, q_moe2, q_mol, q_mol2, q_mor, q_bd2, q_bd1, q_stI, q_oI0, if_true, if_false, ite_true, ite_false, ↓reduceIte, Nat.lt_irrefl, Nat.not_lt_zero, Nat.add_zero, Nat.zero_add, Nat.reduceEqDiff, Nat.reduceLeDiff, Nat.reduceLT, Nat.reduceAdd, Bool.false_eq_true, and_self, and_false, false_and, true_and, and_true, not_true_eq_false, not_false_eq_true]
  · have t1 := q_tb (s := s) (d := u) (by omega) (by omega)
    have e : gI (wr 77 (R u) m) 77 u = nI (r u) := by
      rw [wr_s]
      show (if u < u then _ else rm r g u) = _
      rw [if_neg (Nat.lt_irrefl _)]
      unfold rm
      rw [if_pos hu]
    have e2 : ∀ y, y = nI (if s.testBit u = true then r u - 1 else r u) → upd (R u) u y = R (u + 1) := fun y hy => by
      funext i
      unfold upd
      show (if i = u then y else if i < u then _ else _) = if i < u + 1 then _ else _
      by_cases h : i = u
      · subst h; rw [if_pos rfl, if_pos (by omega)]; exact hy
      · rw [if_neg h]
        by_cases h2 : i < u
        · have h3 : i < u + 1 := by omega
          rw [if_pos h2, if_pos h3]
        · have h3 : ¬ i < u + 1 := by omega
          rw [if_neg h2, if_neg h3]
    by_cases p1 : s.testBit u = true
    · have hp := hpos u hu p1
      rw [if_pos p1] at t1
      have e3 := e2 (nI (r u - 1)) (by rw [if_pos p1])
      simp (maxSteps := 500000) (disch := first | assumption | omega) only [f_X5_take_L2, q_l0, q_l1, q_l2, q_l3, q_l4, q_l5, q_l6, q_l7, q_l8, q_l9, q_l10, q_l11, q_l12, q_l13, q_l14, q_l15, q_l16, q_l20, q_l21, q_l22, q_l24, q_l25, q_l26, q_l27, q_l28, q_l29, q_l30, q_l31, q_l32, q_l40, q_l48, q_l57, q_l80, q_l97, q_l100, q_l120, q_l122, q_l126, q_l160, q_l200, q_l214, q_l255, q_l256, q_l374, q_l400, q_l999, q_l1000, q_l9999, q_l99, q_l99999, q_nm, q_gd, q_gd2, q_ix, q_lt, q_eq, q_m5a, q_m5b, q_m40b, q_m8a, q_m8b, q_m16b, q_m374b, q_m160b, q_m10a, q_div5, q_rem5, nI_add, q_moe, q_moe2, q_mol, q_mol2, q_mor, q_bd2, q_bd1, q_stI, q_oI0, if_true, if_false, ite_true, ite_false, ↓reduceIte, Nat.lt_irrefl, Nat.not_lt_zero, Nat.add_zero, Nat.zero_add, Nat.reduceEqDiff, Nat.reduceLeDiff, Nat.reduceLT, Nat.reduceAdd, Bool.false_eq_true, and_self, and_false, false_and, true_and, and_true, not_true_eq_false, not_false_eq_true, hu, t1, e, q_sub1, wr_sI, e3]
    · rw [if_neg p1] at t1
      have e3 := e2 (nI (r u)) (by rw [if_neg p1])
      have e4 : nI (r u) - nI 0 = nI (r u) := by rw [pk_sub (Nat.zero_le _), Nat.sub_zero]
      simp (maxSteps := 500000) (disch := first | assumption | omega) only [f_X5_take_L2, q_l0, q_l1, q_l2, q_l3, q_l4, q_l5, q_l6, q_l7, q_l8, q_l9, q_l10, q_l11, q_l12, q_l13, q_l14, q_l15, q_l16, q_l20, q_l21, q_l22, q_l24, q_l25, q_l26, q_l27, q_l28, q_l29, q_l30, q_l31, q_l32, q_l40, q_l48, q_l57, q_l80, q_l97, q_l100, q_l120, q_l122, q_l126, q_l160, q_l200, q_l214, q_l255, q_l256, q_l374, q_l400, q_l999, q_l1000, q_l9999, q_l99, q_l99999, q_nm, q_gd, q_gd2, q_ix, q_lt, q_eq, q_m5a, q_m5b, q_m40b, q_m8a, q_m8b, q_m16b, q_m374b, q_m160b, q_m10a, q_div5, q_rem5, nI_add, q_moe, q_moe2, q_mol, q_mol2, q_mor, q_bd2, q_bd1, q_stI, q_oI0, if_true, if_false, ite_true, ite_false, ↓reduceIte, Nat.lt_irrefl, Nat.not_lt_zero, Nat.add_zero, Nat.zero_add, Nat.reduceEqDiff, Nat.reduceLeDiff, Nat.reduceLT, Nat.reduceAdd, Bool.false_eq_true, and_self, and_false, false_and, true_and, and_true, not_true_eq_false, not_false_eq_true, hu, t1, e, e4, wr_sI, e3]
end Tim
