/-! MATH HALF: tokens, the class -/
abbrev Tq : Type := Nat × (Nat → Nat)
abbrev blP (c : Nat) : Prop := c = 10 ∨ c = 32
/-- where the next token begins -/
def skT (q : Tq) (p : Nat) : Nat := p + fs (fun i => ¬ blP (q.2 (p + i))) (q.1 - p)
/-- where a run ends -/
def rnN (q : Tq) (lo hi a : Nat) : Nat := a + fs (fun i => ¬ (lo ≤ q.2 (a + i) ∧ q.2 (a + i) ≤ hi)) (q.1 - a)
def nvN (q : Tq) (a : Nat) : Nat → Nat
  | 0 => 0
  | k + 1 => 10 * nvN q a k + q.2 (a + k) - 48
abbrev sgP (c : Nat) : Prop := (40 ≤ c ∧ c ≤ 43) ∨ c = 45 ∨ (59 ≤ c ∧ c ≤ 61)
abbrev leP (c : Nat) : Prop := 97 ≤ c ∧ c ≤ 122
abbrev diP (c : Nat) : Prop := 48 ≤ c ∧ c ≤ 57
/-- a token that begins at a: kind, end, value -/
def tkE (q : Tq) (a : Nat) : Nat := if a < q.1 then (if leP (q.2 a) then rnN q 97 122 a else if diP (q.2 a) then rnN q 48 57 a else a + 1) else q.1
def tkC (q : Tq) (a : Nat) : Nat := if a < q.1 then (if leP (q.2 a) then (if 8 < rnN q 97 122 a - a then 1 else 2) else if diP (q.2 a) then (if 4 < rnN q 48 57 a - a then 1 else 3) else if sgP (q.2 a) then 4 else 1) else 0
def tkV (q : Tq) (a : Nat) : Nat := if tkC q a = 3 then nvN q a (tkE q a - a) else 0
def tkM (k a e v : Int32) (m : Mm) : Mm := (fun b i => if b = 1 ∧ i = 2 then k else if b = 1 ∧ i = 3 then a else if b = 1 ∧ i = 4 then e else if b = 1 ∧ i = 5 then v else m.1 b i, m.2)
section Tok
variable {q : Tq} {a b c d e i j k n p u x lo hi : Nat} {m m2 : Mm} {w y z g : Int32}
theorem tk_2 : gI (tkM w y z g m) 1 2 = w := by simp [gI, tkM]
theorem tk_3 : gI (tkM w y z g m) 1 3 = y := by simp [gI, tkM]
theorem tk_4 : gI (tkM w y z g m) 1 4 = z := by simp [gI, tkM]
theorem tk_5 : gI (tkM w y z g m) 1 5 = g := by simp [gI, tkM]
theorem tk_1 : gI (tkM w y z g m) 1 1 = gI m 1 1 := by simp [gI, tkM]
theorem tk_o (h : b ≠ 1) : gI (tkM w y z g m) b i = gI m b i := by simp [gI, tkM, h]
theorem ts_2 {v : Int32} : sI (tkM w y z g m) 1 2 v = tkM v y z g m := by
  refine mm_ext (fun b i => ?_) rfl
  simp only [sI, tkM]
  by_cases h : b = 1 ∧ i = 2
  · rw [if_pos h, if_pos h]
  · rw [if_neg h, if_neg h, if_neg h]
theorem ts_4 {v : Int32} : sI (tkM w y z g m) 1 4 v = tkM w y v g m := by
  refine mm_ext (fun b i => ?_) rfl
  simp only [sI, tkM]
  by_cases h : b = 1 ∧ i = 4
  · obtain ⟨rfl, rfl⟩ := h; simp
  · rw [if_neg h, if_neg h, if_neg h]
theorem ts_5 {v : Int32} : sI (tkM w y z g m) 1 5 v = tkM w y z v m := by
  refine mm_ext (fun b i => ?_) rfl
  simp only [sI, tkM]
  by_cases h : b = 1 ∧ i = 5
  · obtain ⟨rfl, rfl⟩ := h; simp
  · rw [if_neg h, if_neg h, if_neg h]
theorem ts_0 {v : Int32} : sI (sI m 1 3 y) 1 5 v = tkM (gI m 1 2) y (gI m 1 4) v m := by
  refine mm_ext (fun b i => ?_) rfl
  simp only [sI, tkM, gI]
  by_cases h2 : b = 1 ∧ i = 2
  · obtain ⟨rfl, rfl⟩ := h2; simp
  · rw [if_neg h2]
    by_cases h3 : b = 1 ∧ i = 3
    · obtain ⟨rfl, rfl⟩ := h3; simp
    · rw [if_neg h3, if_neg h3]
      by_cases h4 : b = 1 ∧ i = 4
      · obtain ⟨rfl, rfl⟩ := h4; simp
      · rw [if_neg h4]
theorem TC_tk (h : TC q m) : TC q (tkM w y z g m) := ⟨by rw [tk_1]; exact h.1, fun i hi => by rw [tk_o (by decide)]; exact h.2 i hi⟩
theorem okS_lt (h : okS c) : c < 127 := by unfold okS at h; omega
theorem skT_le (h : p ≤ q.1) : p ≤ skT q p ∧ skT q p ≤ q.1 := by
  have := fs_le (fun i => ¬ blP (q.2 (p + i))) (q.1 - p)
  unfold skT
  omega
theorem rnN_le (h : a ≤ q.1) : a ≤ rnN q lo hi a ∧ rnN q lo hi a ≤ q.1 := by
  have := fs_le (fun i => ¬ (lo ≤ q.2 (a + i) ∧ q.2 (a + i) ≤ hi)) (q.1 - a)
  unfold rnN
  omega
theorem c_skip (h : TC q m) (hq : TW q) (hp : p ≤ q.1) (h4 : gI m 1 4 = nI p) : f_X7_advance m = f_X7_advance_J41 (nI (skT q p)) m := by
  have h1 := hq.1
  have c1 := h.1
  unfold f_X7_advance
  rw [h4]
  refine lpf (fun j u => f_X7_advance_L5 j (nI (p + u)) m) (fun i => ¬ blP (q.2 (p + i))) (q.1 - p) _ (fun j hn => ?_) (fun j u hu hpu hf => ?_) (fun j u hu hpu => ?_) (by omega)
  · have e : skT q p = p + (q.1 - p) := by unfold skT; rw [fs_end hn]
    have e2 : p + (q.1 - p) = q.1 := by omega
    simp only [f_X7_advance_L5]
    rw [e, e2, c1, if_neg (fun e => absurd ((q_ltp (by omega) (by omega)).mp e) (Nat.lt_irrefl _))]
  · have e : skT q p = p + u := by unfold skT; rw [hf]
    have c2 := h.2 (p + u) (by omega)
    have ho := okS_lt (hq.2 (p + u) (by omega))
    have n10 : ¬ nI (q.2 (p + u)) = 10 := fun e => hpu (Or.inl ((q_eq (b := 10) (by omega) (by omega)).mp e))
    have n32 : ¬ nI (q.2 (p + u)) = 32 := fun e => hpu (Or.inr ((q_eq (b := 32) (by omega) (by omega)).mp e))
    simp only [f_X7_advance_L5]
    rw [e, c1, if_pos ((q_ltp (by omega) (by omega)).mpr (by omega)), q_gd (by omega) (by omega), q_ix (by omega), c2, if_neg n10, q_gd (by omega) (by omega), if_neg n32]
  · have c2 := h.2 (p + u) (by omega)
    have ho := okS_lt (hq.2 (p + u) (by omega))
    have hb : blP (q.2 (p + u)) := Classical.not_not.mp hpu
    simp only [f_X7_advance_L5]
    rw [c1, if_pos ((q_ltp (by omega) (by omega)).mpr (by omega)), q_gd (by omega) (by omega), q_ix (by omega), c2, q_l1, nI_add, Nat.add_assoc]
    rcases hb with hb | hb
    · rw [hb, if_pos (by rfl)]
    · rw [hb, if_neg (by decide), q_gd (by omega) (by omega), if_pos (by rfl)]
theorem c_run (h : TC q m) (hq : TW q) (ha : a ≤ q.1) (h3 : gI m 1 3 = nI a) (hlo : lo < 1000) (hhi : hi < 1000) : f_X7_endOfRun (nI lo) (nI hi) m = some (nI (rnN q lo hi a), m) := by
  have h1 := hq.1
  have c1 := h.1
  unfold f_X7_endOfRun
  rw [h3]
  refine lpf (fun j u => f_X7_endOfRun_L5 j (nI lo) (nI hi) (nI (a + u)) m) (fun i => ¬ (lo ≤ q.2 (a + i) ∧ q.2 (a + i) ≤ hi)) (q.1 - a) _ (fun j hn => ?_) (fun j u hu hpu hf => ?_) (fun j u hu hpu => ?_) (by omega)
  · have e : rnN q lo hi a = a + (q.1 - a) := by unfold rnN; rw [fs_end hn]
    have e2 : a + (q.1 - a) = q.1 := by omega
    simp only [f_X7_endOfRun_L5]
    rw [e, e2, c1, if_neg (fun e => absurd ((q_ltp (by omega) (by omega)).mp e) (Nat.lt_irrefl _))]
  · have e : rnN q lo hi a = a + u := by unfold rnN; rw [hf]
    have c2 := h.2 (a + u) (by omega)
    have ho := okS_lt (hq.2 (a + u) (by omega))
    simp only [f_X7_endOfRun_L5]
    rw [e, c1, if_pos ((q_ltp (by omega) (by omega)).mpr (by omega)), q_gd (by omega) (by omega), q_ix (by omega), c2]
    by_cases k1 : q.2 (a + u) < lo
    · rw [if_pos ((q_ltp (by omega) (by omega)).mpr k1)]
    · rw [if_neg (fun e => k1 ((q_ltp (by omega) (by omega)).mp e)), q_gd (by omega) (by omega), if_pos ((q_ltp (by omega) (by omega)).mpr (by omega))]
  · have c2 := h.2 (a + u) (by omega)
    have ho := okS_lt (hq.2 (a + u) (by omega))
    have hb := Classical.not_not.mp hpu
    simp only [f_X7_endOfRun_L5]
    rw [c1, if_pos ((q_ltp (by omega) (by omega)).mpr (by omega)), q_gd (by omega) (by omega), q_ix (by omega), c2, if_neg (fun e => by have := (q_ltp (by omega) (by omega)).mp e; omega), q_gd (by omega) (by omega), if_neg (fun e => by have := (q_ltp (by omega) (by omega)).mp e; omega), q_l1, nI_add, Nat.add_assoc]
end Tok
