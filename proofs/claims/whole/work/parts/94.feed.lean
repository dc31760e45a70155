/-! MATH HALF: the tape, feed -/
abbrev okS (b : Nat) : Prop := b = 10 ∨ (32 ≤ b ∧ b ≤ 126)
/-- a sign comes behind the tape -/
def apQ (q : Nat × (Nat → Nat)) (b : Nat) : Nat × (Nat → Nat) := if okS b ∧ q.1 < 1000 then (q.1 + 1, fun i => if i = q.1 then b else q.2 i) else q
/-- the j-th byte, the highest first -/
def byN (w : Int64) (j : Nat) : Nat := (w.toBitVec.toNat / 2 ^ (56 - 8 * j)) % 256
def apW (w : Int64) (q : Nat × (Nat → Nat)) : Nat → Nat × (Nat → Nat)
  | 0 => q
  | j + 1 => apQ (apW w q j) (byN w j)
def TC (q : Nat × (Nat → Nat)) (m : Mm) : Prop := gI m 1 1 = nI q.1 ∧ ∀ i, i < q.1 → gI m 2 i = nI (q.2 i)
def TR (q : Nat × (Nat → Nat)) (m : Mm) : Prop := gI m 78 1 = nI q.1 ∧ ∀ i, i < q.1 → gI m 79 i = nI (q.2 i)
/-- the tape's signs are such as may be -/
def TW (q : Nat × (Nat → Nat)) : Prop := q.1 ≤ 1000 ∧ ∀ i, i < q.1 → okS (q.2 i)
section Fed
variable {b x k n i j : Nat} {m m2 : Mm} {w : Int64} {q : Nat × (Nat → Nat)}
theorem TW_ap (h : TW q) : TW (apQ q b) := by
  unfold apQ
  split
  · rename_i h1
    refine ⟨by show q.1 + 1 ≤ 1000; omega, fun i hi => ?_⟩
    have hi2 : i < q.1 + 1 := hi
    show okS (if i = q.1 then b else q.2 i)
    by_cases e : i = q.1
    · rw [if_pos e]; exact h1.1
    · rw [if_neg e]; exact h.2 i (by omega)
  · exact h
theorem TW_apW (h : TW q) : ∀ j, TW (apW w q j)
  | 0 => h
  | j + 1 => TW_ap (TW_apW h j)
theorem by_lt : byN w j < 256 := Nat.mod_lt _ (by decide)
theorem sh_e : ∀ j, j < 8 → (nI (56 - 8 * j)).toInt64.toUInt64 &&& Int64.toUInt64 63 = UInt64.ofNat (56 - 8 * j) := by decide +kernel
theorem by_c (hj : j < 8) : (((w.toUInt64 >>> ((nI (56 - 8 * j)).toInt64.toUInt64 &&& Int64.toUInt64 63)).toInt64).toInt32) &&& nI 255 = nI (byN w j) := by
  rw [sh_e j hj]
  have e1 : (w.toUInt64 >>> UInt64.ofNat (56 - 8 * j)).toNat = w.toBitVec.toNat / 2 ^ (56 - 8 * j) := by
    rw [UInt64.toNat_shiftRight, UInt64.toNat_ofNat', Nat.mod_eq_of_lt (by omega), Nat.mod_eq_of_lt (by omega), Nat.shiftRight_eq_div_pow]
    rfl
  apply Int32.toBitVec_inj.1
  apply BitVec.eq_of_toNat_eq
  rw [Int32.toBitVec_and, BitVec.toNat_and]
  have e2 : ((w.toUInt64 >>> UInt64.ofNat (56 - 8 * j)).toInt64.toInt32).toBitVec.toNat = (w.toBitVec.toNat / 2 ^ (56 - 8 * j)) % 2 ^ 32 := by
    rw [Int64.toBitVec_toInt32, BitVec.signExtend_eq_setWidth_of_le _ (by decide), BitVec.toNat_setWidth]
    rw [← e1]
    rfl
  rw [e2]
  have e3 : (nI 255).toBitVec.toNat = 2 ^ 8 - 1 := by decide
  rw [e3, Nat.and_two_pow_sub_one_eq_mod]
  have hb := by_lt (w := w) (j := j)
  rw [pk_tn (by omega)]
  unfold byN
  generalize w.toBitVec.toNat / 2 ^ (56 - 8 * j) = y
  omega
theorem by_r (hj : j < 8) : (((w.toUInt64 >>> ((nI (56 - 8 * j)).toInt64.toUInt64 &&& Int64.toUInt64 63)).toInt64) &&& (255 : Int64)).toInt32 = nI (byN w j) := by
  rw [← by_c hj]
  generalize (w.toUInt64 >>> ((nI (56 - 8 * j)).toInt64.toUInt64 &&& Int64.toUInt64 63)).toInt64 = y
  apply Int32.toBitVec_inj.1
  rw [Int32.toBitVec_and, Int64.toBitVec_toInt32, Int64.toBitVec_and, Int64.toBitVec_toInt32]
  apply BitVec.eq_of_getLsbD_eq
  intro i hi
  rw [BitVec.getLsbD_signExtend, BitVec.getLsbD_and, BitVec.getLsbD_and, BitVec.getLsbD_signExtend]
  have h255 : ∀ i, i < 32 → (255 : Int64).toBitVec.getLsbD i = (nI 255).toBitVec.getLsbD i := by decide +kernel
  have hi2 : i < 64 := by omega
  simp only [hi, hi2, if_true, ↓reduceIte, h255 i hi]
  cases y.toBitVec.getLsbD i <;> simp
theorem chr : ∀ c, c < 256 → ((nI c).toUInt32 % 65536).toInt32 = nI c := by decide +kernel
theorem c_appB (h : TC q m) (hq : TW q) (hb : b < 256) {K3 : Int64 → Int32 → Mm → Option Mm} {v3 : Int32} : ∃ m2, (f_X7_append_J43 K3 w v3 (nI b) (nI (if okS b then 1 else 0)) m = K3 w (v3 + (-8)) m2) ∧ TC (apQ q b) m2 ∧ m2.2 = m.2 ∧ ∀ c i, c ≠ 2 → ¬ (c = 1 ∧ i = 1) → m2.1 c i = m.1 c i := by
  have h1 := hq.1
  unfold f_X7_append_J43
  by_cases p1 : okS b
  · by_cases p2 : q.1 < 1000
    · have eq1 : apQ q b = (q.1 + 1, fun i => if i = q.1 then b else q.2 i) := if_pos ⟨p1, p2⟩
      have eq0 : (if okS b then 1 else 0) = 1 := if_pos p1
      rw [eq1, eq0]
      refine ⟨sI (sI m 2 q.1 (nI b)) 1 1 (nI (q.1 + 1)), ?_, ⟨by simp [gI, sI], fun i hi => ?_⟩, rfl, fun c i h3 h4 => ?_⟩
      · have e1 : gI (sI m 2 q.1 (nI b)) 1 1 = nI q.1 := by
          have : gI (sI m 2 q.1 (nI b)) 1 1 = gI m 1 1 := by simp [gI, sI]
          rw [this]; exact h.1
        rw [q_l0, if_neg n10, h.1, q_l1000, if_pos ((q_ltp (by omega) (by omega)).mpr p2), q_gd p2 (by omega), q_ix (by omega), chr b hb, q_stI, q_stI, e1, q_l1, nI_add]
      · have hi2 : i < q.1 + 1 := hi
        show gI (sI (sI m 2 q.1 (nI b)) 1 1 (nI (q.1 + 1))) 2 i = nI (if i = q.1 then b else q.2 i)
        by_cases e : i = q.1
        · subst e; simp [gI, sI]
        · rw [if_neg e]
          have : gI (sI (sI m 2 q.1 (nI b)) 1 1 (nI (q.1 + 1))) 2 i = gI m 2 i := by simp [gI, sI, e]
          rw [this]; exact h.2 i (by omega)
      · simp only [sI]
        rw [if_neg h4, if_neg (fun h => h3 h.1)]
    · have eq1 : apQ q b = q := if_neg (fun h => p2 h.2)
      have eq0 : (if okS b then 1 else 0) = 1 := if_pos p1
      rw [eq1, eq0]
      refine ⟨m, ?_, h, rfl, fun _ _ _ _ => rfl⟩
      rw [q_l0, if_neg n10, h.1, q_l1000, if_neg (fun e => p2 ((q_ltp (by omega) (by omega)).mp e))]
  · have eq1 : apQ q b = q := if_neg (fun h => p1 h.1)
    have eq0 : (if okS b then 1 else 0) = 0 := if_neg p1
    rw [eq1, eq0]
    exact ⟨m, by rw [q_l0, if_pos rfl], h, rfl, fun _ _ _ _ => rfl⟩
theorem s8 : ∀ j, j < 7 → nI (56 - 8 * j) + (-8) = nI (56 - 8 * (j + 1)) := by decide +kernel
theorem c_append (h : TC q m) (hq : TW q) : ∃ m2, f_X7_append w m = some m2 ∧ TC (apW w q 8) m2 ∧ m2.2 = m.2 ∧ ∀ c i, c ≠ 2 → ¬ (c = 1 ∧ i = 1) → m2.1 c i = m.1 c i := by
  have step : ∀ j f m1, j < 8 → TC (apW w q j) m1 → ∃ m2, f_X7_append_L3 (f + 1) w (nI (56 - 8 * j)) m1 = f_X7_append_L3 f w (nI (56 - 8 * j) + (-8)) m2 ∧ TC (apW w q (j + 1)) m2 ∧ m2.2 = m1.2 ∧ ∀ c i, c ≠ 2 → ¬ (c = 1 ∧ i = 1) → m2.1 c i = m1.1 c i := fun j f m1 hj h1 => by
    have hb := by_lt (w := w) (j := j)
    obtain ⟨m2, e1, e2, e3, e4⟩ := c_appB (w := w) (b := byN w j) (K3 := fun w1 w3 m => f_X7_append_L3 f w1 w3 m) (v3 := nI (56 - 8 * j)) h1 (TW_apW hq j) hb
    refine ⟨m2, ?_, e2, e3, e4⟩
    have e5 := by_c (w := w) hj
    simp only [f_X7_append_L3]
    rw [q_l255, e5, if_neg (nI_pos (n := 56 - 8 * j) (by show _ < 2147483648; omega))]
    unfold f_X7_append_J38 f_X7_append_J42
    rw [← e1]
    by_cases p1 : byN w j = 10
    · rw [if_pos (by rw [p1]; rfl), if_pos (Or.inl p1)]; rfl
    · have p1' : ¬ nI (byN w j) = 10 := fun e => by
        rw [q_l10, q_eq (by omega) (by omega)] at e
        exact p1 e
      rw [if_neg p1']
      by_cases p2 : byN w j < 32
      · rw [if_pos (by rw [q_l32]; exact (q_ltp (by omega) (by omega)).mpr p2), if_neg (by unfold okS; omega)]; rfl
      · rw [if_neg (by rw [q_l32]; exact fun e => p2 ((q_ltp (by omega) (by omega)).mp e))]
        by_cases p3 : 126 < byN w j
        · rw [if_pos (by rw [q_l126]; exact (q_ltp (by omega) (by omega)).mpr p3), if_neg (by unfold okS; omega)]; rfl
        · rw [if_neg (by rw [q_l126]; exact fun e => p3 ((q_ltp (by omega) (by omega)).mp e)), if_pos (by unfold okS; omega)]; rfl
  have key : ∀ n j f m1, n + j = 7 → n + 1 < f → TC (apW w q j) m1 → ∃ m2, f_X7_append_L3 f w (nI (56 - 8 * j)) m1 = some m2 ∧ TC (apW w q 8) m2 ∧ m2.2 = m1.2 ∧ ∀ c i, c ≠ 2 → ¬ (c = 1 ∧ i = 1) → m2.1 c i = m1.1 c i := fun n => by
    induction n with
    | zero =>
      intro j f m1 e1 e2 e3
      have : j = 7 := by omega
      subst this
      obtain ⟨f1, rfl⟩ : ∃ f1, f = f1 + 1 + 1 := ⟨f - 2, by omega⟩
      obtain ⟨m2, g1, g2, g3, g4⟩ := step 7 (f1 + 1) m1 (by omega) e3
      refine ⟨m2, ?_, g2, g3, g4⟩
      rw [g1]
      simp only [f_X7_append_L3]
      rw [if_pos (by decide)]
    | succ n ih =>
      intro j f m1 e1 e2 e3
      obtain ⟨f1, rfl⟩ : ∃ f1, f = f1 + 1 := ⟨f - 1, by omega⟩
      obtain ⟨m2, g1, g2, g3, g4⟩ := step j f1 m1 (by omega) e3
      obtain ⟨m3, k1, k2, k3, k4⟩ := ih (j + 1) f1 m2 (by omega) (by omega) g2
      refine ⟨m3, ?_, k2, k3.trans g3, fun c i h1 h2 => (k4 c i h1 h2).trans (g4 c i h1 h2)⟩
      rw [g1, s8 j (by omega)]
      exact k1
  obtain ⟨m2, e1, e2, e3, e4⟩ := key 7 0 FU m (by omega) (by show _ < 4096; omega) h
  exact ⟨m2, e1, e2, e3, e4⟩
end Fed
