/-! MATH HALF: tokens, the reference -/
def TRn (q : Tq) (m : Mm) : Prop := gI m 78 3 = nI q.1 ∧ ∀ i, i < q.1 → gI m 79 i = nI (q.2 i)
/-- a word's value, of its first eight letters -/
def wvN (q : Tq) (a : Nat) : Nat → Nat
  | 0 => 0
  | k + 1 => if k < 8 then 27 * wvN q a k + q.2 (a + k) - 96 else wvN q a k
def n4N (q : Tq) (a : Nat) : Nat → Nat
  | 0 => 0
  | k + 1 => if k < 4 then 10 * n4N q a k + q.2 (a + k) - 48 else n4N q a k
def rkM (a e k v : Int32) (w : Int64) (m : Mm) : Mm := (fun b i => if b = 78 ∧ i = 4 then e else if b = 78 ∧ i = 5 then a else if b = 78 ∧ i = 6 then k else if b = 78 ∧ i = 8 then v else m.1 b i, fun b i => if b = 78 ∧ i = 7 then w else m.2 b i)
/-- the reference's name of a kind -/
def krN (c : Nat) : Nat := if c = 0 then 0 else if c = 1 then 4 else c - 1
section Tok3
variable {q : Tq} {a b c d e i j k n p u x lo hi : Nat} {m m2 : Mm} {y z g f v : Int32} {w w2 : Int64}
theorem rk_3 : gI (rkM y z g f w m) 78 3 = gI m 78 3 := by simp [gI, rkM]
theorem rk_4 : gI (rkM y z g f w m) 78 4 = z := by simp [gI, rkM]
theorem rk_5 : gI (rkM y z g f w m) 78 5 = y := by simp [gI, rkM]
theorem rk_6 : gI (rkM y z g f w m) 78 6 = g := by simp [gI, rkM]
theorem rk_8 : gI (rkM y z g f w m) 78 8 = f := by simp [gI, rkM]
theorem rk_7 : gL (rkM y z g f w m) 78 7 = w := by simp [gL, rkM]
theorem rk_o (h : b ≠ 78) : gI (rkM y z g f w m) b i = gI m b i := by simp [gI, rkM, h]
theorem rs_4 : sI (rkM y z g f w m) 78 4 v = rkM y v g f w m := by
  refine mm_ext (fun b i => ?_) rfl
  simp only [sI, rkM]
  by_cases h : b = 78 ∧ i = 4
  · rw [if_pos h, if_pos h]
  · rw [if_neg h, if_neg h, if_neg h]
theorem rs_6 : sI (rkM y z g f w m) 78 6 v = rkM y z v f w m := by
  refine mm_ext (fun b i => ?_) rfl
  simp only [sI, rkM]
  by_cases h : b = 78 ∧ i = 6
  · obtain ⟨rfl, rfl⟩ := h; simp
  · rw [if_neg h, if_neg h, if_neg h]
theorem rs_8 : sI (rkM y z g f w m) 78 8 v = rkM y z g v w m := by
  refine mm_ext (fun b i => ?_) rfl
  simp only [sI, rkM]
  by_cases h : b = 78 ∧ i = 8
  · obtain ⟨rfl, rfl⟩ := h; simp
  · rw [if_neg h, if_neg h, if_neg h]
theorem rs_7 : sL (rkM y z g f w m) 78 7 w2 = rkM y z g f w2 m := by
  simp only [sL, rkM]
  refine Prod.ext rfl ?_
  funext b i
  simp only
  by_cases h : b = 78 ∧ i = 7
  · rw [if_pos h, if_pos h]
  · rw [if_neg h, if_neg h, if_neg h]
theorem TRn_rk (h : TRn q m) : TRn q (rkM y z g f w m) := ⟨by rw [rk_3]; exact h.1, fun i hi => by rw [rk_o (by decide)]; exact h.2 i hi⟩
theorem r_sgn (h : TRn q m) (hq : TW q) (hx : x ≤ 1000) : f_X11_signAt (nI x) m = some (nI (if x < q.1 then q.2 x else 0), m) := by
  have h1 := hq.1
  unfold f_X11_signAt
  rw [h.1]
  by_cases e : x < q.1
  · rw [if_pos ((q_ltp (by omega) (by omega)).mpr e), if_pos e, q_gd (by omega) (by omega), q_ix (by omega), h.2 x e]
  · rw [if_neg (fun e2 => e ((q_ltp (by omega) (by omega)).mp e2)), if_neg e]
    rfl
theorem l_sub (h : b ≤ a) : lN a - lN b = lN (a - b) := by
  have e : lN a = lN (a - b) + lN b := by
    show Int64.ofNat a = Int64.ofNat (a - b) + Int64.ofNat b
    rw [← Int64.ofNat_add, Nat.sub_add_cancel h]
  rw [e]
  apply Int64.toBitVec_inj.1
  rw [Int64.toBitVec_sub, Int64.toBitVec_add, BitVec.add_sub_cancel]
theorem wv_lt (hd : ∀ i, i < k → leP (q.2 (a + i))) : ∀ j, j ≤ k → wvN q a j < 27 ^ 8
  | 0, _ => by show 0 < 27 ^ 8; decide
  | j + 1, hj => by
    have aux : ∀ j, j ≤ k → j ≤ 8 → wvN q a j < 27 ^ j := fun j => by
      induction j with
      | zero => intro _ _; show 0 < 1; decide
      | succ j ih =>
        intro h1 h2
        have h3 := ih (by omega) (by omega)
        have h4 := hd j (by omega)
        show (if j < 8 then 27 * wvN q a j + q.2 (a + j) - 96 else wvN q a j) < 27 ^ (j + 1)
        rw [if_pos (by omega), Nat.pow_succ]
        omega
    by_cases e : j + 1 ≤ 8
    · exact Nat.lt_of_lt_of_le (aux (j + 1) hj e) (Nat.pow_le_pow_right (by decide) e)
    · show (if j < 8 then 27 * wvN q a j + q.2 (a + j) - 96 else wvN q a j) < 27 ^ 8
      rw [if_neg (by omega)]
      exact wv_lt hd j (by omega)
theorem n4_lt (hd : ∀ i, i < k → diP (q.2 (a + i))) : ∀ j, j ≤ k → n4N q a j < 10 ^ 4
  | 0, _ => by show 0 < 10 ^ 4; decide
  | j + 1, hj => by
    have aux : ∀ j, j ≤ k → j ≤ 4 → n4N q a j < 10 ^ j := fun j => by
      induction j with
      | zero => intro _ _; show 0 < 1; decide
      | succ j ih =>
        intro h1 h2
        have h3 := ih (by omega) (by omega)
        have h4 := hd j (by omega)
        show (if j < 4 then 10 * n4N q a j + q.2 (a + j) - 48 else n4N q a j) < 10 ^ (j + 1)
        rw [if_pos (by omega), Nat.pow_succ]
        omega
    by_cases e : j + 1 ≤ 4
    · exact Nat.lt_of_lt_of_le (aux (j + 1) hj e) (Nat.pow_le_pow_right (by decide) e)
    · show (if j < 4 then 10 * n4N q a j + q.2 (a + j) - 48 else n4N q a j) < 10 ^ 4
      rw [if_neg (by omega)]
      exact n4_lt hd j (by omega)
theorem n4_nv : ∀ k, k ≤ 4 → n4N q a k = nvN q a k
  | 0, _ => rfl
  | k + 1, h => by
    show (if k < 4 then 10 * n4N q a k + q.2 (a + k) - 48 else n4N q a k) = 10 * nvN q a k + q.2 (a + k) - 48
    rw [if_pos (by omega), n4_nv k (by omega)]
theorem r_skip (h : TRn q m) (hq : TW q) (hp : p ≤ q.1) (h4 : gI m 78 4 = nI p) : f_X11_nextToken m = f_X11_nextToken_J52 (sI m 78 4 (nI (skT q p))) := by
  have h1 := hq.1
  have e0 : m = sI m 78 4 (nI (p + 0)) := by
    refine mm_ext (fun b i => ?_) rfl
    simp only [sI]
    by_cases hb : b = 78 ∧ i = 4
    · obtain ⟨rfl, rfl⟩ := hb
      rw [if_pos ⟨rfl, rfl⟩]; exact h4
    · rw [if_neg hb]
  have g4 : ∀ x, gI (sI m 78 4 x) 78 4 = x := fun x => by simp [gI, sI]
  have g3 : ∀ x, gI (sI m 78 4 x) 78 3 = gI m 78 3 := fun x => by simp [gI, sI]
  have g9 : ∀ x i, gI (sI m 78 4 x) 79 i = gI m 79 i := fun x i => by simp [gI, sI]
  have gs : ∀ x y, sI (sI m 78 4 x) 78 4 y = sI m 78 4 y := fun x y => by
    refine mm_ext (fun b i => ?_) rfl
    simp only [sI]
    split <;> rfl
  unfold f_X11_nextToken
  conv => lhs; rw [e0]
  refine lpf (fun j u => f_X11_nextToken_L0 j (sI m 78 4 (nI (p + u)))) (fun i => ¬ blP (q.2 (p + i))) (q.1 - p) _ (fun j hn => ?_) (fun j u hu hpu hf => ?_) (fun j u hu hpu => ?_) (by omega)
  · have e : skT q p = p + (q.1 - p) := by unfold skT; rw [fs_end hn]
    have e2 : p + (q.1 - p) = q.1 := by omega
    simp only [f_X11_nextToken_L0]
    rw [e, e2, g4, g3, h.1, if_neg (fun e => absurd ((q_ltp (by omega) (by omega)).mp e) (Nat.lt_irrefl _))]
  · have e : skT q p = p + u := by unfold skT; rw [hf]
    have c2 := h.2 (p + u) (by omega)
    have ho := okS_lt (hq.2 (p + u) (by omega))
    have n10 : ¬ nI (q.2 (p + u)) = 10 := fun e => hpu (Or.inl ((q_eq (b := 10) (by omega) (by omega)).mp e))
    have n32 : ¬ nI (q.2 (p + u)) = 32 := fun e => hpu (Or.inr ((q_eq (b := 32) (by omega) (by omega)).mp e))
    simp only [f_X11_nextToken_L0]
    rw [e, g4, g3, h.1, if_pos ((q_ltp (by omega) (by omega)).mpr (by omega)), q_gd (by omega) (by omega), q_ix (by omega), g9, c2, if_neg n32, q_gd (by omega) (by omega), if_neg n10]
  · have c2 := h.2 (p + u) (by omega)
    have ho := okS_lt (hq.2 (p + u) (by omega))
    have hb : blP (q.2 (p + u)) := Classical.not_not.mp hpu
    simp only [f_X11_nextToken_L0]
    rw [g4, g3, h.1, if_pos ((q_ltp (by omega) (by omega)).mpr (by omega)), q_gd (by omega) (by omega), q_ix (by omega), g9, c2, q_stI, gs, q_l1, nI_add, Nat.add_assoc]
    rcases hb with hb | hb
    · rw [hb, if_neg (by decide), q_gd (by omega) (by omega), if_pos (by rfl)]
    · rw [hb, if_pos (by rfl)]
end Tok3
