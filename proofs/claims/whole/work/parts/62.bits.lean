/-! MATH HALF: small sets of bits -/
def mZ : Mm := (fun _ _ => 0, fun _ _ => 0)
def bcF (x : Int32) : Int32 := match f_J6_bitCount_0f7a4 x mZ with
  | some (r, _) => r
  | none => 0
theorem f_bc (x : Int32) (m : Mm) : f_J6_bitCount_0f7a4 x m = some (bcF x, m) := rfl
/-- how many bits -/
def pc (s : Nat) : Nat := ct (fun i => s.testBit i = true) 13
theorem bc_pc2 : ∀ h, h < 128 → ∀ l, l < 64 → bcF (nI (64 * h + l)) = nI (pc (64 * h + l)) := by decide +kernel
theorem bc_pc (s : Nat) (hs : s < 8192) : bcF (nI s) = nI (pc s) := by
  have h := bc_pc2 (s / 64) (by omega) (s % 64) (by omega)
  have e : 64 * (s / 64) + s % 64 = s := by omega
  rw [e] at h
  exact h
theorem dead_pc : ∀ s, s < 32 → ((nI s &&& (nI s - nI 1) = nI 0) ↔ pc s ≤ 1) := by decide +kernel
theorem only_pc : ∀ s, s < 32 → fs (fun u => s = 2 ^ u) 5 = if pc s = 1 then fs (fun u => s.testBit u = true) 5 else 5 := by decide +kernel
/-- a set by what is in it -/
def lb (p : Nat → Prop) [DecidablePred p] : Nat → Nat
  | 0 => 0
  | n + 1 => if p n then lb p n ||| 2 ^ n else lb p n
theorem lb_lt (p : Nat → Prop) [DecidablePred p] : ∀ n, lb p n < 2 ^ n
  | 0 => Nat.one_pos
  | n + 1 => by
    have h := lb_lt p n
    have h1 : 2 ^ n < 2 ^ (n + 1) := Nat.pow_lt_pow_right (by decide) (by omega)
    unfold lb
    split
    · exact Nat.or_lt_two_pow (by omega) h1
    · omega
theorem lb_bit (p : Nat → Prop) [DecidablePred p] : ∀ n i, (lb p n).testBit i = true ↔ (i < n ∧ p i)
  | 0, i => by simp [lb]
  | n + 1, i => by
    have ih := lb_bit p n i
    unfold lb
    by_cases hp : p n
    · rw [if_pos hp, Nat.testBit_or, Nat.testBit_two_pow, Bool.or_eq_true, ih, decide_eq_true_eq]
      constructor
      · rintro (⟨h1, h2⟩ | rfl)
        · exact ⟨by omega, h2⟩
        · exact ⟨by omega, hp⟩
      · rintro ⟨h1, h2⟩
        by_cases h : i < n
        · exact Or.inl ⟨h, h2⟩
        · exact Or.inr (by omega)
    · rw [if_neg hp, ih]
      constructor
      · rintro ⟨h1, h2⟩
        exact ⟨by omega, h2⟩
      · rintro ⟨h1, h2⟩
        have : i ≠ n := fun e => hp (e ▸ h2)
        exact ⟨by omega, h2⟩
theorem ct_ext {p : Nat → Prop} [DecidablePred p] {n : Nat} : ∀ {k : Nat}, n ≤ k → (∀ i, n ≤ i → i < k → ¬ p i) → ct p k = ct p n
  | 0, h, _ => by have : n = 0 := by omega
                  subst this; rfl
  | k + 1, h, h2 => by
    rcases Nat.lt_or_ge k n with h3 | h3
    · have : n = k + 1 := by omega
      subst this; rfl
    · show ct p k + (if p k then 1 else 0) = _
      rw [if_neg (h2 k h3 (by omega)), ct_ext (k := k) h3 (fun i h4 h5 => h2 i h4 (by omega)), Nat.add_zero]
theorem pc_lb (p : Nat → Prop) [DecidablePred p] {n : Nat} (h : n ≤ 13) : pc (lb p n) = ct p n := by
  unfold pc
  have e : ct (fun i => (lb p n).testBit i = true) 13 = ct (fun i => i < n ∧ p i) 13 := ct_congr (fun i _ => lb_bit p n i)
  rw [e, ct_ext (n := n) h (fun i h1 _ h3 => by omega)]
  exact ct_congr (fun i hi => ⟨fun h => h.2, fun h => ⟨hi, h⟩⟩)
theorem q_or (a b : Nat) : nI a ||| nI b = nI (a ||| b) := by
  apply Int32.toBitVec_inj.1
  show BitVec.ofNat 32 a ||| BitVec.ofNat 32 b = BitVec.ofNat 32 (a ||| b)
  apply BitVec.eq_of_getLsbD_eq
  intro i hi
  simp [hi]
theorem q_and (a b : Nat) : nI a &&& nI b = nI (a &&& b) := by
  apply Int32.toBitVec_inj.1
  show BitVec.ofNat 32 a &&& BitVec.ofNat 32 b = BitVec.ofNat 32 (a &&& b)
  apply BitVec.eq_of_getLsbD_eq
  intro i hi
  simp [hi]
theorem q_xor (a b : Nat) : nI a ^^^ nI b = nI (a ^^^ b) := by
  apply Int32.toBitVec_inj.1
  show BitVec.ofNat 32 a ^^^ BitVec.ofNat 32 b = BitVec.ofNat 32 (a ^^^ b)
  apply BitVec.eq_of_getLsbD_eq
  intro i hi
  simp [hi]
theorem q_s31 : ∀ d, d < 32 → ((nI d &&& nI 31).toBitVec.smod 32).toNat = d := by decide +kernel
theorem q_shr {s d : Nat} (hs : s < 2147483648) (hd : d < 32) : nI s >>> (nI d &&& nI 31) = nI (s / 2 ^ d) := pk_shrN hs _ d (q_s31 d hd)
theorem q_tb {s d : Nat} (hs : s < 2147483648) (hd : d < 32) : (nI s >>> (nI d &&& nI 31)) &&& nI 1 = nI (if s.testBit d = true then 1 else 0) := by
  rw [q_shr hs hd, q_and, Nat.and_one_is_mod, Nat.testBit_eq_decide_div_mod_eq]
  congr 1
  by_cases h : s / 2 ^ d % 2 = 1
  · simp [h]
  · have : s / 2 ^ d % 2 = 0 := by omega
    simp [this]
