/-! MATH HALF: the token in hand, on both sides -/
def nxT (q : Tq) (a : Nat) : Nat := skT q (tkE q a)
def CTk (q : Tq) (a : Nat) (m : Mm) : Prop := TC q m ∧ gI m 1 2 = nI (tkC q a) ∧ gI m 1 3 = nI a ∧ gI m 1 4 = nI (tkE q a) ∧ gI m 1 5 = nI (tkV q a)
def RTk (q : Tq) (a : Nat) (m : Mm) : Prop := TRn q m ∧ gI m 78 5 = nI a ∧ gI m 78 4 = nI (tkE q a) ∧ gI m 78 6 = nI (krN (tkC q a)) ∧ (tkC q a = 2 → gL m 78 7 = lN (wvN q a (tkE q a - a))) ∧ (tkC q a = 3 → gI m 78 8 = nI (tkV q a))
abbrev siP (q : Tq) (a s : Nat) : Prop := tkC q a = 4 ∧ q.2 a = s
/-- what the class's tape moves -/
def mvC (m m2 : Mm) : Prop := m2.2 = m.2 ∧ ∀ b i, ¬ (b = 1 ∧ 2 ≤ i ∧ i ≤ 5) → m2.1 b i = m.1 b i
def mvR (m m2 : Mm) : Prop := (∀ b i, ¬ (b = 78 ∧ i = 7) → m2.2 b i = m.2 b i) ∧ ∀ b i, ¬ (b = 78 ∧ (i = 4 ∨ i = 5 ∨ i = 6 ∨ i = 8)) → m2.1 b i = m.1 b i
section Tok5
variable {q : Tq} {a b c d e i j k n p s u x : Nat} {m m2 : Mm} {y z g f v : Int32} {w w2 : Int64}
theorem tkE_le (ha : a ≤ q.1) : a ≤ tkE q a ∧ tkE q a ≤ q.1 := by
  have h1 := rnN_le (q := q) (lo := 97) (hi := 122) ha
  have h2 := rnN_le (q := q) (lo := 48) (hi := 57) ha
  unfold tkE
  split
  · split
    · omega
    · split <;> omega
  · omega
theorem tkC_le : tkC q a ≤ 4 := by
  unfold tkC
  split
  · split
    · split <;> omega
    · split
      · split <;> omega
      · split <;> omega
  · omega
theorem tkC_in (h : tkC q a ≠ 0) : a < q.1 := by
  unfold tkC at h
  by_cases e : a < q.1
  · exact e
  · rw [if_neg e] at h
    exact absurd rfl h
/-- a token takes a sign at least -/
theorem tkE_lt (h : tkC q a ≠ 0) : a < tkE q a := by
  have h1 := tkC_in h
  have aux : ∀ lo hi, lo ≤ q.2 a ∧ q.2 a ≤ hi → a < rnN q lo hi a := fun lo hi hh => by
    unfold rnN
    rcases Nat.eq_zero_or_pos (fs (fun i => ¬ (lo ≤ q.2 (a + i) ∧ q.2 (a + i) ≤ hi)) (q.1 - a)) with e | e
    · have := fs_is (fun i => ¬ (lo ≤ q.2 (a + i) ∧ q.2 (a + i) ≤ hi)) (q.1 - a) (by omega)
      rw [e] at this
      exact absurd hh this
    · omega
  unfold tkE
  rw [if_pos h1]
  by_cases l : leP (q.2 a)
  · rw [if_pos l]; exact aux 97 122 l
  · rw [if_neg l]
    by_cases d : diP (q.2 a)
    · rw [if_pos d]; exact aux 48 57 d
    · rw [if_neg d]; omega
theorem nxT_le (ha : a ≤ q.1) : nxT q a ≤ q.1 := (skT_le (tkE_le ha).2).2
theorem nxT_lt (h : tkC q a ≠ 0) : a < nxT q a := by
  have h1 := tkC_in h
  have h2 := tkE_lt h
  have h3 := (skT_le (q := q) (p := tkE q a) (tkE_le (by omega)).2).1
  unfold nxT
  omega
theorem mvC_t {m3 : Mm} (h1 : mvC m m2) (h2 : mvC m2 m3) : mvC m m3 := ⟨h2.1.trans h1.1, fun b i h => (h2.2 b i h).trans (h1.2 b i h)⟩
theorem mvR_t {m3 : Mm} (h1 : mvR m m2) (h2 : mvR m2 m3) : mvR m m3 := ⟨fun b i h => (h2.1 b i h).trans (h1.1 b i h), fun b i h => (h2.2 b i h).trans (h1.2 b i h)⟩
/-- from any place -/
theorem c_advP (h : TC q m) (hq : TW q) (hp : p ≤ q.1) (h4 : gI m 1 4 = nI p) : ∃ m2, f_X7_advance m = some m2 ∧ CTk q (skT q p) m2 ∧ mvC m m2 := by
  refine ⟨_, c_adv h hq hp h4, ⟨TC_tk h, tk_2, tk_3, tk_4, tk_5⟩, rfl, fun b i hb => ?_⟩
  simp only [tkM]
  rw [if_neg (by omega), if_neg (by omega), if_neg (by omega), if_neg (by omega)]
theorem c_adv2 (h : CTk q a m) (hq : TW q) (ha : a ≤ q.1) : ∃ m2, f_X7_advance m = some m2 ∧ CTk q (nxT q a) m2 ∧ mvC m m2 := c_advP h.1 hq (tkE_le ha).2 h.2.2.2.1
theorem r_nextP (h : TRn q m) (hq : TW q) (hp : p ≤ q.1) (h4 : gI m 78 4 = nI p) : ∃ m2, f_X11_nextToken m = some m2 ∧ RTk q (skT q p) m2 ∧ mvR m m2 := by
  obtain ⟨v, w, e1, e2, e3⟩ := r_next h hq hp h4
  refine ⟨_, e1, ⟨TRn_rk h, rk_5, rk_4, rk_6, fun k2 => by rw [rk_7, e2 k2], fun k3 => by rw [rk_8, e3 k3]⟩, fun b i hb => ?_, fun b i hb => ?_⟩
  · simp only [rkM]
    rw [if_neg hb]
  · simp only [rkM]
    rw [if_neg (by omega), if_neg (by omega), if_neg (by omega), if_neg (by omega)]
theorem r_next2 (h : RTk q a m) (hq : TW q) (ha : a ≤ q.1) : ∃ m2, f_X11_nextToken m = some m2 ∧ RTk q (nxT q a) m2 ∧ mvR m m2 := r_nextP h.1 hq (tkE_le ha).2 h.2.2.1
theorem c_sign (h : CTk q a m) (hq : TW q) (ha : a ≤ q.1) (hs : s < 1000) : f_X7_isSign (nI s) m = some (nI (if siP q a s then 1 else 0), m) := by
  have hC := tkC_le (q := q) (a := a)
  have h1 := hq.1
  unfold f_X7_isSign
  rw [h.2.1, h.2.2.1, q_l4]
  by_cases k4 : tkC q a = 4
  · have hin := tkC_in (q := q) (a := a) (by omega)
    have ho := okS_lt (hq.2 a hin)
    rw [if_pos (by rw [k4]), q_gd (by omega) (by omega), q_ix (by omega), h.1.2 a hin]
    by_cases e : q.2 a = s
    · rw [if_pos (by rw [e]), if_pos ⟨k4, e⟩]; rfl
    · rw [if_neg (fun h2 => e ((q_eq (by omega) (by omega)).mp h2)), if_neg (fun h2 => e h2.2)]; rfl
  · rw [if_neg (fun h2 => k4 ((q_eq (by omega) (by omega)).mp h2)), if_neg (fun h2 => k4 h2.1)]; rfl
theorem kr_3 (h : c ≤ 4) : krN c = 3 ↔ c = 4 := by
  unfold krN
  split
  · omega
  · split <;> omega
theorem kr_2 (h : c ≤ 4) : krN c = 2 ↔ c = 3 := by
  unfold krN
  split
  · omega
  · split <;> omega
theorem kr_1 (h : c ≤ 4) : krN c = 1 ↔ c = 2 := by
  unfold krN
  split
  · omega
  · split <;> omega
theorem kr_0 (h : c ≤ 4) : krN c = 0 ↔ c = 0 := by
  unfold krN
  split
  · omega
  · split <;> omega
theorem kr_le (h : c ≤ 4) : krN c ≤ 4 := by
  unfold krN
  split
  · omega
  · split <;> omega
theorem r_sign (h : RTk q a m) (hq : TW q) (ha : a ≤ q.1) (hs : s < 1000) : f_X11_isSign (nI s) m = some (nI (if siP q a s then 1 else 0), m) := by
  have hC := tkC_le (q := q) (a := a)
  have hK := kr_le hC
  have h1 := hq.1
  unfold f_X11_isSign
  rw [h.2.2.2.1, h.2.1, q_l3]
  by_cases k4 : tkC q a = 4
  · have hin := tkC_in (q := q) (a := a) (by omega)
    have ho := okS_lt (hq.2 a hin)
    rw [if_pos (by rw [(kr_3 hC).mpr k4]), q_gd (by omega) (by omega), q_ix (by omega), h.1.2 a hin]
    by_cases e : q.2 a = s
    · rw [if_pos (by rw [e]), if_pos ⟨k4, e⟩]; rfl
    · rw [if_neg (fun h2 => e ((q_eq (by omega) (by omega)).mp h2)), if_neg (fun h2 => e h2.2)]; rfl
  · rw [if_neg (fun h2 => k4 ((kr_3 hC).mp ((q_eq (by omega) (by omega)).mp h2))), if_neg (fun h2 => k4 h2.1)]; rfl
theorem c_word (h : CTk q a m) (hq : TW q) (ha : a ≤ q.1) (hp : p < 21) : f_X7_isWord (1000 + p) m = some (nI (if woP q a (2000 + p) then 1 else 0), m) := c_isWord h.1 hq hp ha h.2.1 h.2.2.1 h.2.2.2.1 (tkE_le ha) tkC_le
theorem lg_0 {x y : Int64} : lg_cmp x y = 0 ↔ x = y := by
  constructor
  · intro h
    unfold lg_cmp at h
    by_cases e1 : x > y
    · rw [if_pos e1] at h
      exact absurd h (by decide)
    · rw [if_neg e1] at h
      by_cases e2 : x = y
      · exact e2
      · rw [if_neg e2] at h
        exact absurd h (by decide)
  · intro h
    rw [h]
    exact lg_refl y
theorem r_word2 (h : RTk q a m) (hq : TW q) (ha : a ≤ q.1) (hp : p < 21) (hx : x = wvN (txQ (2000 + p)) 0 (txn (2000 + p))) (hx2 : x < 27 ^ 8) : f_X11_isWord (lN x) m = some (nI (if woP q a (2000 + p) then 1 else 0), m) := by
  have hC := tkC_le (q := q) (a := a)
  have hK := kr_le hC
  unfold f_X11_isWord
  rw [h.2.2.2.1, q_l1]
  by_cases k2 : tkC q a = 2
  · have iff := wd_iff (tx_all p hp) k2
    rw [← hx] at iff
    have hw : wvN q a (tkE q a - a) < 2 ^ 63 ∧ x < 2 ^ 63 := by
      refine ⟨?_, Nat.lt_of_lt_of_le hx2 (by decide)⟩
      have hT := wv_lt (q := q) (a := a) (k := tkE q a - a) (fun i hi => by
        have hin := tkC_in (q := q) (a := a) (by omega)
        have e4 : tkE q a = rnN q 97 122 a := by
          unfold tkC at k2
          unfold tkE
          rw [if_pos hin] at k2 ⊢
          by_cases e2 : leP (q.2 a)
          · rw [if_pos e2]
          · rw [if_neg e2] at k2
            split at k2
            · split at k2 <;> exact absurd k2 (by decide)
            · split at k2 <;> exact absurd k2 (by decide)
        rw [e4] at hi
        exact run_is hi) _ (Nat.le_refl _)
      exact Nat.lt_of_lt_of_le hT (by decide)
    rw [if_pos (by rw [(kr_1 hC).mpr k2]), h.2.2.2.2.1 k2]
    by_cases e : wvN q a (tkE q a - a) = x
    · rw [if_pos (lg_0.mpr (by rw [e])), if_pos (iff.mpr e)]
    · rw [if_neg (fun h2 => e ((pk_lEQ hw.1 hw.2).mp (lg_0.mp h2))), if_neg (fun h2 => e (iff.mp h2))]; rfl
  · rw [if_neg (fun h2 => k2 ((kr_1 hC).mp ((q_eq (by omega) (by omega)).mp h2))), if_neg (fun h2 => k2 h2.1)]; rfl
end Tok5
