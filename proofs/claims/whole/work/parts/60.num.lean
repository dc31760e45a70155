/-! MATH HALF: numbers, loops -/
theorem q_l0 : (0 : Int32) = nI 0 := congrArg id (rfl : (0 : Int32) = nI 0)
theorem q_l1 : (1 : Int32) = nI 1 := congrArg id (rfl : (1 : Int32) = nI 1)
theorem q_l2 : (2 : Int32) = nI 2 := congrArg id (rfl : (2 : Int32) = nI 2)
theorem q_l3 : (3 : Int32) = nI 3 := congrArg id (rfl : (3 : Int32) = nI 3)
theorem q_l4 : (4 : Int32) = nI 4 := congrArg id (rfl : (4 : Int32) = nI 4)
theorem q_l5 : (5 : Int32) = nI 5 := congrArg id (rfl : (5 : Int32) = nI 5)
theorem q_l6 : (6 : Int32) = nI 6 := congrArg id (rfl : (6 : Int32) = nI 6)
theorem q_l7 : (7 : Int32) = nI 7 := congrArg id (rfl : (7 : Int32) = nI 7)
theorem q_l8 : (8 : Int32) = nI 8 := congrArg id (rfl : (8 : Int32) = nI 8)
theorem q_l9 : (9 : Int32) = nI 9 := congrArg id (rfl : (9 : Int32) = nI 9)
theorem q_l10 : (10 : Int32) = nI 10 := congrArg id (rfl : (10 : Int32) = nI 10)
theorem q_l11 : (11 : Int32) = nI 11 := congrArg id (rfl : (11 : Int32) = nI 11)
theorem q_l12 : (12 : Int32) = nI 12 := congrArg id (rfl : (12 : Int32) = nI 12)
theorem q_l13 : (13 : Int32) = nI 13 := congrArg id (rfl : (13 : Int32) = nI 13)
theorem q_l14 : (14 : Int32) = nI 14 := congrArg id (rfl : (14 : Int32) = nI 14)
theorem q_l15 : (15 : Int32) = nI 15 := congrArg id (rfl : (15 : Int32) = nI 15)
theorem q_l16 : (16 : Int32) = nI 16 := congrArg id (rfl : (16 : Int32) = nI 16)
theorem q_l20 : (20 : Int32) = nI 20 := congrArg id (rfl : (20 : Int32) = nI 20)
theorem q_l21 : (21 : Int32) = nI 21 := congrArg id (rfl : (21 : Int32) = nI 21)
theorem q_l22 : (22 : Int32) = nI 22 := congrArg id (rfl : (22 : Int32) = nI 22)
theorem q_l24 : (24 : Int32) = nI 24 := congrArg id (rfl : (24 : Int32) = nI 24)
theorem q_l25 : (25 : Int32) = nI 25 := congrArg id (rfl : (25 : Int32) = nI 25)
theorem q_l26 : (26 : Int32) = nI 26 := congrArg id (rfl : (26 : Int32) = nI 26)
theorem q_l27 : (27 : Int32) = nI 27 := congrArg id (rfl : (27 : Int32) = nI 27)
theorem q_l28 : (28 : Int32) = nI 28 := congrArg id (rfl : (28 : Int32) = nI 28)
theorem q_l29 : (29 : Int32) = nI 29 := congrArg id (rfl : (29 : Int32) = nI 29)
theorem q_l30 : (30 : Int32) = nI 30 := congrArg id (rfl : (30 : Int32) = nI 30)
theorem q_l31 : (31 : Int32) = nI 31 := congrArg id (rfl : (31 : Int32) = nI 31)
theorem q_l32 : (32 : Int32) = nI 32 := congrArg id (rfl : (32 : Int32) = nI 32)
theorem q_l40 : (40 : Int32) = nI 40 := congrArg id (rfl : (40 : Int32) = nI 40)
theorem q_l48 : (48 : Int32) = nI 48 := congrArg id (rfl : (48 : Int32) = nI 48)
theorem q_l57 : (57 : Int32) = nI 57 := congrArg id (rfl : (57 : Int32) = nI 57)
theorem q_l80 : (80 : Int32) = nI 80 := congrArg id (rfl : (80 : Int32) = nI 80)
theorem q_l97 : (97 : Int32) = nI 97 := congrArg id (rfl : (97 : Int32) = nI 97)
theorem q_l100 : (100 : Int32) = nI 100 := congrArg id (rfl : (100 : Int32) = nI 100)
theorem q_l120 : (120 : Int32) = nI 120 := congrArg id (rfl : (120 : Int32) = nI 120)
theorem q_l122 : (122 : Int32) = nI 122 := congrArg id (rfl : (122 : Int32) = nI 122)
theorem q_l126 : (126 : Int32) = nI 126 := congrArg id (rfl : (126 : Int32) = nI 126)
theorem q_l160 : (160 : Int32) = nI 160 := congrArg id (rfl : (160 : Int32) = nI 160)
theorem q_l200 : (200 : Int32) = nI 200 := congrArg id (rfl : (200 : Int32) = nI 200)
theorem q_l214 : (214 : Int32) = nI 214 := congrArg id (rfl : (214 : Int32) = nI 214)
theorem q_l255 : (255 : Int32) = nI 255 := congrArg id (rfl : (255 : Int32) = nI 255)
theorem q_l256 : (256 : Int32) = nI 256 := congrArg id (rfl : (256 : Int32) = nI 256)
theorem q_l374 : (374 : Int32) = nI 374 := congrArg id (rfl : (374 : Int32) = nI 374)
theorem q_l400 : (400 : Int32) = nI 400 := congrArg id (rfl : (400 : Int32) = nI 400)
theorem q_l999 : (999 : Int32) = nI 999 := congrArg id (rfl : (999 : Int32) = nI 999)
theorem q_l1000 : (1000 : Int32) = nI 1000 := congrArg id (rfl : (1000 : Int32) = nI 1000)
theorem q_l9999 : (9999 : Int32) = nI 9999 := congrArg id (rfl : (9999 : Int32) = nI 9999)
theorem q_l99 : (99 : Int32) = nI 99 := congrArg id (rfl : (99 : Int32) = nI 99)
theorem q_l99999 : (99999 : Int32) = nI 99999 := congrArg id (rfl : (99999 : Int32) = nI 99999)
/-- NONE -/
def mo : Int32 := -1
/-- an int that is NONE (0) or a number (one less) -/
def oI (n : Nat) : Int32 := if n = 0 then mo else nI (n - 1)
theorem q_nm : -(nI 1) = mo := congrArg id (rfl : -(nI 1) = mo)
theorem q_oI0 : oI 0 = mo := congrArg id (rfl : oI 0 = mo)
theorem q_oIs (n : Nat) : oI (n + 1) = nI n := by simp [oI]
theorem q_oIp {n : Nat} (h : 0 < n) : oI n = nI (n - 1) := by unfold oI; rw [if_neg (by omega)]
theorem q_ix {n : Nat} (h : n < 2147483648) : ix (nI n) = n := nI_clamp h
theorem q_ltp {a b : Nat} (ha : a < 2147483648) (hb : b < 2147483648) : nI a < nI b ↔ a < b := nI_ltI ha hb
theorem q_lt {a b : Nat} (ha : a < 2147483648) (hb : b < 2147483648) : (nI a < nI b) = (a < b) := propext (nI_ltI ha hb)
theorem q_eq {a b : Nat} (ha : a < 2147483648) (hb : b < 2147483648) : (nI a = nI b) = (a = b) := propext (nI_eq ha hb)
theorem q_inb {i n : Nat} (h : i < n) (hn : i < 2147483648) : inb (nI i) n = true := by
  have h1 : ix (nI i) = i := q_ix hn
  unfold ix at h1
  simp [inb, h1, h, nI_pos (n := i) hn]
theorem q_gd {α : Type} {i n : Nat} {A : Option α} (h : i < n) (hn : i < 2147483648) : gd (inb (nI i) n) A = A := by simp [gd, q_inb h hn]
theorem q_gd2 {α : Type} {n : Nat} {A : Option α} (hn : n < 2) : gd (isB (nI n)) A = A := by
  have : n = 0 ∨ n = 1 := by omega
  rcases this with rfl | rfl <;> rfl
theorem q_m5a (k : Nat) : nI k * nI 5 = nI (5 * k) := by rw [pk_mul, Nat.mul_comm]
theorem q_m5b (k : Nat) : nI 5 * nI k = nI (5 * k) := pk_mul 5 k
theorem q_m40b (k : Nat) : nI 40 * nI k = nI (40 * k) := pk_mul 40 k
theorem q_m8a (k : Nat) : nI k * nI 8 = nI (8 * k) := by rw [pk_mul, Nat.mul_comm]
theorem q_m8b (k : Nat) : nI 8 * nI k = nI (8 * k) := pk_mul 8 k
theorem q_m16b (k : Nat) : nI 16 * nI k = nI (16 * k) := pk_mul 16 k
theorem q_m374b (k : Nat) : nI 374 * nI k = nI (374 * k) := pk_mul 374 k
theorem q_m160b (k : Nat) : nI 160 * nI k = nI (160 * k) := pk_mul 160 k
theorem q_m10a (k : Nat) : nI k * nI 10 = nI (10 * k) := by rw [pk_mul, Nat.mul_comm]
theorem q_div5 {a : Nat} (h : a < 2147483648) : nI a / nI 5 = nI (a / 5) := pk_div h (by decide) (by decide)
theorem q_rem5 {a : Nat} (h : a < 2147483648) : nI a - nI (5 * (a / 5)) = nI (a % 5) := by
  rw [pk_sub (by omega)]; congr 1; omega
theorem q_moe {a : Nat} (h : a < 2147483648) : (nI a = mo) = False := by
  refine eq_false fun e => ?_
  have h1 : (nI a).toInt = (a : Int) := nI_toInt h
  rw [e] at h1
  have h2 : mo.toInt = -1 := by decide
  omega
theorem q_moe2 {a : Nat} (h : a < 2147483648) : (mo = nI a) = False := by
  refine eq_false fun e => ?_
  have h1 := e.symm
  rw [q_moe h] at h1
  exact h1
theorem q_mol {a : Nat} (h : a < 2147483648) : (mo < nI a) = True := by
  refine eq_true ?_
  rw [Int32.lt_iff_toInt_lt, nI_toInt h]
  have h2 : mo.toInt = -1 := by decide
  omega
theorem q_mol2 {a : Nat} (h : a < 2147483648) : (nI a < mo) = False := by
  refine eq_false ?_
  rw [Int32.lt_iff_toInt_lt, nI_toInt h]
  have h2 : mo.toInt = -1 := by decide
  omega
theorem q_mor : (mo = mo) = True := eq_true rfl
theorem q_bd2 {α β : Type} {r : β} {m : Mm} {K : β → Mm → Option α} : bd2 (some (r, m)) K = K r m := rfl
theorem q_bd1 {α : Type} {m : Mm} {K : Mm → Option α} : bd1 (some m) K = K m := rfl
theorem q_stI {α : Type} {m : Mm} {a k : Nat} {v : Int32} {K : Mm → Option α} : stI m a k v K = K (sI m a k v) := rfl
theorem q_shl {d : Nat} (h : d < 31) : nI 1 <<< (nI d &&& nI 31) = nI (2 ^ d) := by
  have : ∀ d, d < 31 → nI 1 <<< (nI d &&& nI 31) = nI (2 ^ d) := by decide +kernel
  exact this d h
/-- a loop that counts up: with fuel enough it ends as it ends at n -/
theorem lp {α : Type} (F : Nat → Nat → Option α) (n : Nat) (r : Option α) (he : ∀ k, F (k + 1) n = r) (hs : ∀ k u, u < n → F (k + 1) u = F k (u + 1)) : ∀ k u, u ≤ n → n < u + k → F k u = r := by
  intro k
  induction k with
  | zero => intro u h1 h2; omega
  | succ k ih =>
    intro u h1 h2
    rcases Nat.lt_or_ge u n with h | h
    · rw [hs k u h]; exact ih (u + 1) (by omega) (by omega)
    · have : u = n := by omega
      subst this; exact he k
theorem lp0 {α : Type} (F : Nat → Nat → Option α) (n : Nat) (r : Option α) (he : ∀ k, F (k + 1) n = r) (hs : ∀ k u, u < n → F (k + 1) u = F k (u + 1)) (hn : n < 4096) : F FU 0 = r := lp F n r he hs FU 0 (Nat.zero_le _) (by show n < 0 + 4096; omega)
/-- how many below n -/
def ct (p : Nat → Prop) [DecidablePred p] : Nat → Nat
  | 0 => 0
  | n + 1 => ct p n + (if p n then 1 else 0)
theorem ct_le (p : Nat → Prop) [DecidablePred p] : ∀ n, ct p n ≤ n
  | 0 => Nat.le_refl _
  | n + 1 => by
    have := ct_le p n
    unfold ct
    split <;> omega
theorem ct_congr {p q : Nat → Prop} [DecidablePred p] [DecidablePred q] : ∀ {n : Nat}, (∀ i, i < n → (p i ↔ q i)) → ct p n = ct q n
  | 0, _ => rfl
  | n + 1, h => by
    unfold ct
    rw [ct_congr (n := n) (fun i hi => h i (by omega))]
    have := h n (by omega)
    by_cases hp : p n
    · rw [if_pos hp, if_pos (this.mp hp)]
    · rw [if_neg hp, if_neg (fun hq => hp (this.mpr hq))]
/-- the first below n, else n -/
def fs (p : Nat → Prop) [DecidablePred p] : Nat → Nat
  | 0 => 0
  | n + 1 => if fs p n < n then fs p n else if p n then n else n + 1
theorem fs_le (p : Nat → Prop) [DecidablePred p] : ∀ n, fs p n ≤ n
  | 0 => Nat.le_refl _
  | n + 1 => by
    have := fs_le p n
    unfold fs
    split
    · omega
    · split <;> omega
theorem fs_not (p : Nat → Prop) [DecidablePred p] : ∀ n i, i < fs p n → ¬ p i
  | 0, i => fun h => by unfold fs at h; omega
  | n + 1, i => fun h => by
    have h0 := fs_le p n
    have ih := fs_not p n i
    unfold fs at h
    split at h
    · exact ih h
    · split at h
      · exact ih (by omega)
      · rename_i h1 h2
        rcases Nat.lt_or_ge i n with h3 | h3
        · exact ih (by omega)
        · have : i = n := by omega
          subst this; exact h2
theorem fs_is (p : Nat → Prop) [DecidablePred p] : ∀ n, fs p n < n → p (fs p n)
  | 0 => fun h => by omega
  | n + 1 => fun h => by
    have ih := fs_is p n
    unfold fs at h ⊢
    by_cases h1 : fs p n < n
    · rw [if_pos h1]; exact ih h1
    · rw [if_neg h1] at h ⊢
      by_cases h2 : p n
      · rw [if_pos h2]; exact h2
      · rw [if_neg h2] at h; omega
theorem fs_eq {p : Nat → Prop} [DecidablePred p] {n i : Nat} (hi : i < n) (hp : p i) (hn : ∀ j, j < i → ¬ p j) : fs p n = i := by
  rcases Nat.lt_or_ge (fs p n) i with h | h
  · exact absurd (fs_is p n (by omega)) (hn _ h)
  · rcases Nat.lt_or_ge i (fs p n) with h2 | h2
    · exact absurd hp (fs_not p n i h2)
    · omega
theorem fs_end {p : Nat → Prop} [DecidablePred p] {n : Nat} (hn : ∀ j, j < n → ¬ p j) : fs p n = n := by
  have h := fs_le p n
  rcases Nat.lt_or_ge (fs p n) n with h2 | h2
  · exact absurd (fs_is p n h2) (hn _ h2)
  · omega
theorem fs_congr {p q : Nat → Prop} [DecidablePred p] [DecidablePred q] {n : Nat} (h : ∀ i, i < n → (p i ↔ q i)) : fs p n = fs q n := by
  have h1 := fs_le q n
  rcases Nat.lt_or_ge (fs q n) n with h2 | h2
  · exact fs_eq h2 ((h _ h2).mpr (fs_is q n h2)) (fun j hj hp => fs_not q n j hj ((h j (by omega)).mp hp))
  · have e : fs q n = n := by omega
    rw [e]
    exact fs_end (fun j hj hp => fs_not q n j (by omega) ((h j hj).mp hp))
/-- its number, or NONE -/
def fo (p : Nat → Prop) [DecidablePred p] (n : Nat) : Int32 := if fs p n < n then nI (fs p n) else mo
/-- a loop that looks for the first: at p it ends, else at n -/
theorem lpf {α : Type} (F : Nat → Nat → Option α) (p : Nat → Prop) [DecidablePred p] (n : Nat) (r : Option α) (he : ∀ k, (∀ i, i < n → ¬ p i) → F (k + 1) n = r) (hp : ∀ k u, u < n → p u → fs p n = u → F (k + 1) u = r) (hs : ∀ k u, u < n → ¬ p u → F (k + 1) u = F k (u + 1)) (hn : n < 4096) : F FU 0 = r := by
  have h1 := fs_le p n
  refine lp F (fs p n) r (fun k => ?_) (fun k u hu => hs k u (by omega) (fs_not p n u hu)) FU 0 (Nat.zero_le _) (by show fs p n < 0 + 4096; omega)
  rcases Nat.lt_or_ge (fs p n) n with h2 | h2
  · exact hp k _ h2 (fs_is p n h2) rfl
  · have e : fs p n = n := by omega
    have h3 := he k (fun i hi => fs_not p n i (by omega))
    rw [e]; exact h3
theorem and1 (x : Int32) : x &&& nI 1 = nI 0 ∨ x &&& nI 1 = nI 1 := by
  obtain ⟨j, hj, h⟩ := pk_andE x (m := nI 1) 1 (by decide)
  have : j = 0 ∨ j = 1 := by omega
  rcases this with rfl | rfl
  · exact Or.inl h
  · exact Or.inr h
theorem q_sub1 {n : Nat} (h : 1 ≤ n) : nI n - nI 1 = nI (n - 1) := pk_sub h
/-- as lp, where a loop may end early as it ends at n -/
theorem lpE {α : Type} (F : Nat → Nat → Option α) (n : Nat) (r : Option α) (he : ∀ k, F (k + 1) n = r) (hs : ∀ k u, u < n → F (k + 1) u = F k (u + 1) ∨ F (k + 1) u = r) : ∀ k u, u ≤ n → n < u + k → F k u = r := by
  intro k
  induction k with
  | zero => intro u h1 h2; omega
  | succ k ih =>
    intro u h1 h2
    rcases Nat.lt_or_ge u n with h | h
    · rcases hs k u h with h3 | h3
      · rw [h3]; exact ih (u + 1) (by omega) (by omega)
      · exact h3
    · have : u = n := by omega
      subst this; exact he k
theorem lpE0 {α : Type} (F : Nat → Nat → Option α) (n : Nat) (r : Option α) (he : ∀ k, F (k + 1) n = r) (hs : ∀ k u, u < n → F (k + 1) u = F k (u + 1) ∨ F (k + 1) u = r) (hn : n < 4096) : F FU 0 = r := lpE F n r he hs FU 0 (Nat.zero_le _) (by show n < 0 + 4096; omega)
theorem ct_pos {p : Nat → Prop} [DecidablePred p] : ∀ {n u : Nat}, u < n → p u → 1 ≤ ct p n
  | 0, u, h, _ => by omega
  | n + 1, u, h, hp => by
    unfold ct
    by_cases h1 : u = n
    · subst h1; rw [if_pos hp]; omega
    · have := ct_pos (n := n) (u := u) (by omega) hp
      omega
theorem ct_two {p : Nat → Prop} [DecidablePred p] : ∀ {n u v : Nat}, u < n → v < n → u ≠ v → p u → p v → 2 ≤ ct p n
  | 0, u, v, h, _, _, _, _ => by omega
  | n + 1, u, v, h, h1, h2, hu, hv => by
    unfold ct
    by_cases h3 : u = n
    · subst h3
      have := ct_pos (n := u) (u := v) (by omega) hv
      rw [if_pos hu]; omega
    · by_cases h4 : v = n
      · subst h4
        have := ct_pos (n := v) (u := u) (by omega) hu
        rw [if_pos hv]; omega
      · have := ct_two (n := n) (u := u) (v := v) (by omega) (by omega) h2 hu hv
        omega
theorem ct_none {p : Nat → Prop} [DecidablePred p] : ∀ {n : Nat}, (∀ i, i < n → ¬ p i) → ct p n = 0
  | 0, _ => rfl
  | n + 1, h => by
    unfold ct
    rw [ct_none (n := n) (fun i hi => h i (by omega)), if_neg (h n (by omega))]
theorem ct_one {p : Nat → Prop} [DecidablePred p] {n : Nat} (h : ct p n ≠ 0) : fs p n < n := by
  rcases Nat.lt_or_ge (fs p n) n with h1 | h1
  · exact h1
  · exact absurd (ct_none (fun i hi => fs_not p n i (by omega))) h
