/-! MATH HALF: words -/
/-- the text as a tape -/
def txC (p i : Nat) : Nat := (txb p i).toBitVec.toNat
def txQ (p : Nat) : Tq := (txn p, txC p)
/-- a text that is a word -/
abbrev txW (p : Nat) : Prop := txn p ≤ 8 ∧ ∀ i, i < txn p → leP (txC p i) ∧ ((txb p i &&& (255 : Int32)).toUInt32 % 65536).toInt32 = nI (txC p i) ∧ isC (nI (txC p i)) = true
/-- the token at a is the word -/
abbrev woP (q : Tq) (a p : Nat) : Prop := tkC q a = 2 ∧ tkE q a - a = txn p ∧ ∀ i, i < txn p → q.2 (a + i) = txC p i
section Word
variable {q q2 : Tq} {a a2 b c d e i j k n p u x : Nat} {m m2 : Mm} {y z g f v : Int32} {w w2 : Int64}
theorem txQ_2 : (txQ p).2 = txC p := by unfold txQ; simp only
theorem tx_all : ∀ p, p < 21 → txW (2000 + p) := by decide +kernel
theorem wv_inj : ∀ {k n : Nat}, k ≤ 8 → n ≤ 8 → (∀ i, i < k → leP (q.2 (a + i))) → (∀ i, i < n → leP (q2.2 (a2 + i))) → wvN q a k = wvN q2 a2 n → k = n ∧ ∀ i, i < k → q.2 (a + i) = q2.2 (a2 + i)
  | 0, 0, _, _, _, _, _ => ⟨rfl, fun i hi => absurd hi (Nat.not_lt_zero _)⟩
  | 0, n + 1, _, h2, _, h4, e => by
    exfalso
    have l := h4 n (by omega)
    have e1 : wvN q2 a2 (n + 1) = 27 * wvN q2 a2 n + q2.2 (a2 + n) - 96 := by
      show (if n < 8 then _ else _) = _
      rw [if_pos (by omega)]
    have e2 : wvN q a 0 = 0 := rfl
    omega
  | k + 1, 0, h1, _, h3, _, e => by
    exfalso
    have l := h3 k (by omega)
    have e1 : wvN q a (k + 1) = 27 * wvN q a k + q.2 (a + k) - 96 := by
      show (if k < 8 then _ else _) = _
      rw [if_pos (by omega)]
    have e2 : wvN q2 a2 0 = 0 := rfl
    omega
  | k + 1, n + 1, h1, h2, h3, h4, e => by
    have l1 := h3 k (by omega)
    have l2 := h4 n (by omega)
    have e1 : wvN q a (k + 1) = 27 * wvN q a k + q.2 (a + k) - 96 := by
      show (if k < 8 then _ else _) = _
      rw [if_pos (by omega)]
    have e2 : wvN q2 a2 (n + 1) = 27 * wvN q2 a2 n + q2.2 (a2 + n) - 96 := by
      show (if n < 8 then _ else _) = _
      rw [if_pos (by omega)]
    obtain ⟨r1, r2⟩ := wv_inj (k := k) (n := n) (by omega) (by omega) (fun i hi => h3 i (by omega)) (fun i hi => h4 i (by omega)) (by omega)
    refine ⟨by omega, fun i hi => ?_⟩
    by_cases ei : i = k
    · subst ei
      subst r1
      omega
    · exact r2 i (by omega)
theorem wv_congr : ∀ {k : Nat}, (∀ i, i < k → q.2 (a + i) = q2.2 (a2 + i)) → wvN q a k = wvN q2 a2 k
  | 0, _ => rfl
  | k + 1, h => by
    have ih := wv_congr (k := k) (fun i hi => h i (by omega))
    show (if k < 8 then _ else _) = (if k < 8 then _ else _)
    rw [ih, h k (by omega)]
/-- the token is the word just where its value is the text's -/
theorem wd_iff (hp : txW p) (h2 : tkC q a = 2) : woP q a p ↔ wvN q a (tkE q a - a) = wvN (txQ p) 0 (txn p) := by
  have hT : a < q.1 ∧ leP (q.2 a) ∧ ¬ 8 < rnN q 97 122 a - a ∧ tkE q a = rnN q 97 122 a := by
    unfold tkC at h2
    unfold tkE
    by_cases e1 : a < q.1
    · rw [if_pos e1] at h2
      by_cases e2 : leP (q.2 a)
      · rw [if_pos e2] at h2
        by_cases e3 : 8 < rnN q 97 122 a - a
        · rw [if_pos e3] at h2
          exact absurd h2 (by decide)
        · rw [if_pos e1, if_pos e2]
          exact ⟨e1, e2, e3, rfl⟩
      · rw [if_neg e2] at h2
        split at h2
        · split at h2 <;> exact absurd h2 (by decide)
        · split at h2 <;> exact absurd h2 (by decide)
    · rw [if_neg e1] at h2
      exact absurd h2 (by decide)
  obtain ⟨t1, t2, t3, t4⟩ := hT
  have hl : ∀ i, i < tkE q a - a → leP (q.2 (a + i)) := fun i hi => by
    rw [t4] at hi
    exact run_is hi
  have e0 : ∀ i, (txQ p).2 (0 + i) = txC p i := fun i => by rw [txQ_2, Nat.zero_add]
  constructor
  · rintro ⟨_, k1, k2⟩
    rw [k1]
    exact wv_congr (fun i hi => by rw [e0]; exact k2 i hi)
  · intro e
    obtain ⟨r1, r2⟩ := wv_inj (q := q) (q2 := txQ p) (a := a) (a2 := 0) (by rw [t4]; omega) hp.1 hl (fun i hi => by rw [e0]; exact (hp.2 i hi).1) e
    exact ⟨h2, r1, fun i hi => by
      have := r2 i (by omega)
      rw [e0] at this
      exact this⟩
theorem c_len2 : f_J0_length_8abf5 n m = some (txl (n + 1000) >>> ((0 : Int32) &&& 31), m) := by
  unfold f_J0_length_8abf5 f_J0_coder_7d493
  rw [if_neg (by decide), q_bd2]
theorem tx_sh : ∀ p, p < 21 → txl (1000 + p + 1000) >>> ((0 : Int32) &&& 31) = nI (txn (2000 + p)) := by decide +kernel
theorem c_char (hp : p < 21) (hi : i < txn (2000 + p)) : f_J0_charAt_5068e (1000 + p) (nI i) m = some (nI (txC (2000 + p) i), m) := by
  have hw := tx_all p hp
  obtain ⟨k1, k2, k3⟩ := hw.2 i hi
  have h8 := hw.1
  have e : 1000 + p + 1000 = 2000 + p := by omega
  have eb : inbL (nI i) (txl (2000 + p)) = true := by
    have : ∀ n, n ≤ 8 → ∀ i, i < n → inbL (nI i) (Int32.ofNat n) = true := by decide +kernel
    exact this _ h8 i hi
  unfold f_J0_charAt_5068e f_J0_isLatin1_aae02
  rw [if_neg (by decide), if_pos (by rfl), q_bd2, if_neg (by decide)]
  unfold f_J1_charAt_3b067
  rw [e, gd, if_pos eb, q_gd (by omega) (by omega), q_ix (by omega), k2, q_bd2, gd, if_pos k3]
/-- the class asks for a word -/
theorem c_isWord (h : TC q m) (hq : TW q) (hp : p < 21) (ha : a ≤ q.1) (h2 : gI m 1 2 = nI (tkC q a)) (h3 : gI m 1 3 = nI a) (h4 : gI m 1 4 = nI (tkE q a)) (hE : a ≤ tkE q a ∧ tkE q a ≤ q.1) (hC : tkC q a ≤ 4) : f_X7_isWord (1000 + p) m = some (nI (if woP q a (2000 + p) then 1 else 0), m) := by
  have h1 := hq.1
  have h8 := (tx_all p hp).1
  have el : f_J0_length_8abf5 (1000 + p) m = some (nI (txn (2000 + p)), m) := by rw [c_len2, tx_sh p hp]
  unfold f_X7_isWord
  rw [h2, q_l2]
  by_cases k2 : tkC q a = 2
  · rw [if_pos (by rw [k2]), el, q_bd2, h4, h3, pk_sub hE.1]
    by_cases kl : tkE q a - a = txn (2000 + p)
    · rw [if_pos (by rw [kl]), q_l0]
      refine lpf (fun j u => f_X7_isWord_L28 (1000 + p) j (nI u) m) (fun i => ¬ q.2 (a + i) = txC (2000 + p) i) (txn (2000 + p)) _ (fun j hn => ?_) (fun j u hu hpu hf => ?_) (fun j u hu hpu => ?_) (by omega)
      · rw [if_pos ⟨k2, kl, fun i hi => Classical.not_not.mp (hn i hi)⟩]
        simp only [f_X7_isWord_L28]
        rw [el, q_bd2, if_neg (fun e => absurd ((q_ltp (by omega) (by omega)).mp e) (Nat.lt_irrefl _))]
        rfl
      · rw [if_neg (fun hh => hpu (hh.2.2 u hu))]
        have ho := okS_lt (hq.2 (a + u) (by omega))
        have hl := ((tx_all p hp).2 u hu).1
        simp only [f_X7_isWord_L28]
        rw [el, q_bd2, if_pos ((q_ltp (by omega) (by omega)).mpr hu), h3, nI_add, q_gd (by omega) (by omega), q_ix (by omega), c_char hp hu, q_bd2, h.2 (a + u) (by omega), if_neg (fun e => hpu ((q_eq (by omega) (by omega)).mp e))]
        rfl
      · have hb := Classical.not_not.mp hpu
        simp only [f_X7_isWord_L28]
        rw [el, q_bd2, if_pos ((q_ltp (by omega) (by omega)).mpr hu), h3, nI_add, q_gd (by omega) (by omega), q_ix (by omega), c_char hp hu, q_bd2, h.2 (a + u) (by omega), if_pos (by rw [hb]), q_l1, nI_add]
    · rw [if_neg (fun e => kl ((q_eq (by omega) (by omega)).mp e)), if_neg (fun hh => kl hh.2.1)]
      rfl
  · rw [if_neg (fun e => k2 ((q_eq (by omega) (by omega)).mp e)), if_neg (fun hh => k2 hh.1)]
    rfl
end Word
