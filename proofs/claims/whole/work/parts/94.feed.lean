/-! MATH HALF: the tape, feed -/
abbrev okS (b : Nat) : Prop := b = 10 ∨ (32 ≤ b ∧ b ≤ 126)
/-- a sign comes behind the tape -/
def apQ (q : Nat × (Nat → Nat)) (b : Nat) : Nat × (Nat → Nat) := if okS b ∧ q.1 < 1000 then (q.1 + 1, fun i => if i = q.1 then b else q.2 i) else q
/-- the j-th byte, the highest first -/
def byN (w : Int64) (j : Nat) : Nat := (w.toBitVec.toNat / 2 ^ (56 - 8 * j)) % 256
def apW (w : Int64) (q : Nat × (Nat → Nat)) : Nat → Nat × (Nat → Nat)
  | 0 => q
  | j + 1 => apQ (apW w q j) (byN w j)
def TC (q : Nat × (Nat → Nat)) (m : Mm) : Prop := gI m 1 1 = nI q.1 ∧ ∀ i, i < q.1 → gI m 2 i = nI (q.2 i)
def TR (q : Nat × (Nat → Nat)) (m : Mm) : Prop := gI m 78 1 = nI q.1 ∧ ∀ i, i < q.1 → gI m 79 i = nI (q.2 i)
/-- the tape's signs are such as may be -/
def TW (q : Nat × (Nat → Nat)) : Prop := q.1 ≤ 1000 ∧ ∀ i, i < q.1 → okS (q.2 i)
section Fed
variable {b x k n i j : Nat} {m m2 : Mm} {w : Int64} {q : Nat × (Nat → Nat)}
theorem TW_ap (h : TW q) : TW (apQ q b) := by
  unfold apQ
  split
  · rename_i h1
    refine ⟨by show q.1 + 1 ≤ 1000; omega, fun i hi => ?_⟩
    have hi2 : i < q.1 + 1 := hi
    show okS (if i = q.1 then b else q.2 i)
    by_cases e : i = q.1
    · rw [if_pos e]; exact h1.1
    · rw [if_neg e]; exact h.2 i (by omega)
  · exact h
theorem TW_apW (h : TW q) : ∀ j, TW (apW w q j)
  | 0 => h
  | j + 1 => TW_ap (TW_apW h j)
theorem by_lt : byN w j < 256 := Nat.mod_lt _ (by decide)
theorem sh_e : ∀ j, j < 8 → (nI (56 - 8 * j)).toInt64.toUInt64 &&& Int64.toUInt64 63 = UInt64.ofNat (56 - 8 * j) := by decide +kernel
theorem by_c (hj : j < 8) : (((w.toUInt64 >>> ((nI (56 - 8 * j)).toInt64.toUInt64 &&& Int64.toUInt64 63)).toInt64).toInt32) &&& nI 255 = nI (byN w j) := by
  rw [sh_e j hj]
  have e1 : (w.toUInt64 >>> UInt64.ofNat (56 - 8 * j)).toNat = w.toBitVec.toNat / 2 ^ (56 - 8 * j) := by
    rw [UInt64.toNat_shiftRight, UInt64.toNat_ofNat', Nat.mod_eq_of_lt (by omega), Nat.mod_eq_of_lt (by omega), Nat.shiftRight_eq_div_pow]
    rfl
  apply Int32.toBitVec_inj.1
  apply BitVec.eq_of_toNat_eq
  rw [Int32.toBitVec_and, BitVec.toNat_and]
  have e2 : ((w.toUInt64 >>> UInt64.ofNat (56 - 8 * j)).toInt64.toInt32).toBitVec.toNat = (w.toBitVec.toNat / 2 ^ (56 - 8 * j)) % 2 ^ 32 := by
    rw [Int64.toBitVec_toInt32, BitVec.toNat_signExtend_of_le (by decide)]
    rw [← e1]
    rfl
  rw [e2]
  have e3 : (nI 255).toBitVec.toNat = 2 ^ 8 - 1 := by decide
  rw [e3, Nat.and_two_pow_sub_one_eq_mod]
  have hb := by_lt (w := w) (j := j)
  rw [pk_tn (by omega)]
  unfold byN
  generalize w.toBitVec.toNat / 2 ^ (56 - 8 * j) = y
  omega
theorem by_r (hj : j < 8) : (((w.toUInt64 >>> ((nI (56 - 8 * j)).toInt64.toUInt64 &&& Int64.toUInt64 63)).toInt64) &&& (255 : Int64)).toInt32 = nI (byN w j) := by
  rw [← by_c hj]
  generalize (w.toUInt64 >>> ((nI (56 - 8 * j)).toInt64.toUInt64 &&& Int64.toUInt64 63)).toInt64 = y
  apply Int32.toBitVec_inj.1
  rw [Int32.toBitVec_and, Int64.toBitVec_toInt32, Int64.toBitVec_and, Int64.toBitVec_toInt32]
  apply BitVec.eq_of_getLsbD_eq
  intro i hi
  rw [BitVec.getLsbD_signExtend, BitVec.getLsbD_and, BitVec.getLsbD_and, BitVec.getLsbD_signExtend]
  have h255 : ∀ i, i < 32 → (255 : Int64).toBitVec.getLsbD i = (nI 255).toBitVec.getLsbD i := by decide +kernel
  have hi2 : i < 64 := by omega
  simp only [hi, hi2, if_true, ↓reduceIte, h255 i hi]
  cases y.toBitVec.getLsbD i <;> simp
theorem chr : ∀ c, c < 256 → ((nI c).toUInt32 % 65536).toInt32 = nI c := by decide +kernel
end Fed
