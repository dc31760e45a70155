/-! MATH HALF: the value of an expression, the reference's codes -/
def frW (d : Nat) (m m2 : Mm) : Prop := m2.2 = m.2 ∧ ∀ b i, ¬ (89 ≤ b ∧ b ≤ 97 ∧ d ≤ i) → m2.1 b i = m.1 b i
def RnR (f : List Int32) (d d0 : Nat) (m : Mm) (Q : Mm → Prop) : Prop := ∀ N j k, gI m 85 0 = nI N → N ≤ 1000 → j + f.length ≤ N → Seg 86 j f m → ∃ m2, f_X11_worked_L14 (k + f.length) (nI 0) (nI d) (nI j) m = f_X11_worked_L14 k (nI 0) (nI d0) (nI (j + f.length)) m2 ∧ Q m2 ∧ frW d0 m m2
def UwN (c : Nat) (m : Mm) (d d0 : Nat) : Prop := d0 ≤ d ∧ (∀ i, d0 < i → i ≤ d → gI m c i = 1) ∧ (d0 = 0 ∨ ¬ gI m c d0 = 1)
def ngN : Nat → Int32 → Int32
  | 0, v => v
  | n + 1, v => ngN n (ngI v)
def ptI (m : Mm) (d : Nat) : Int32 := if gI m 94 d = 21 then gI m 93 d - gI m 95 d else gI m 93 d + gI m 95 d
def tvI (m : Mm) (d : Nat) : Int32 := if gI m 92 d = 24 then (if gI m 91 d < ptI m d then 1 else 0) else if gI m 92 d = 25 then (if gI m 91 d = ptI m d then 1 else 0) else ptI m d
def kvI (m : Mm) (d : Nat) : Int32 := if gI m 90 d = 26 then (if gI m 89 d = 0 then 0 else if tvI m d = 0 then 0 else 1) else if gI m 90 d = 27 then (if gI m 89 d = 0 then (if tvI m d = 0 then 0 else 1) else 1) else tvI m d
section EvR1
variable {t b n j k s d d0 d1 N : Nat} {m m2 m3 : Mm} {v w y x : Int32} {f f2 : List Int32} {Q Q2 : Mm → Prop}
theorem frW_r : frW d m m := ⟨rfl, fun _ _ _ => rfl⟩
theorem frW_t (h1 : frW d m m2) (h2 : frW d m2 m3) : frW d m m3 := ⟨h2.1.trans h1.1, fun b i k1 => (h2.2 b i k1).trans (h1.2 b i k1)⟩
theorem frW_le (h1 : frW d m m2) (h : d0 ≤ d) : frW d0 m m2 := ⟨h1.1, fun b i k1 => h1.2 b i (by omega)⟩
theorem frW_s {i : Nat} (h1 : frW d m m2) (h : 89 ≤ b ∧ b ≤ 97 ∧ d ≤ i) : frW d m (sI m2 b i y) := ⟨h1.1, fun c j k1 => by
  simp only [sI]
  rw [if_neg (by omega)]
  exact h1.2 c j k1⟩
theorem frW_g (h1 : frW d m m2) {i : Nat} (h : ¬ (89 ≤ b ∧ b ≤ 97 ∧ d ≤ i)) : gI m2 b i = gI m b i := h1.2 b i h
theorem rn_app (h1 : RnR f d d1 m Q) (h2 : ∀ m2, Q m2 → frW d1 m m2 → RnR f2 d1 d0 m2 Q2) (hd : d0 ≤ d1) : RnR (f ++ f2) d d0 m Q2 := by
  intro N j k a1 a2 a3 a4
  rw [List.length_append] at a3 ⊢
  obtain ⟨s1, s2⟩ := Seg_app.mp a4
  obtain ⟨m2, e1, e2, e3⟩ := h1 N j (k + f2.length) a1 a2 (by omega) s1
  obtain ⟨m3, b1, b2, b3⟩ := h2 m2 e2 e3 N (j + f.length) k ((frW_g e3 (by omega)).trans a1) a2 (by omega) (Seg_fr s2 (fun i _ _ => frW_g e3 (by omega)))
  refine ⟨m3, ?_, b2, frW_t (frW_le e3 hd) b3⟩
  rw [show k + (f.length + f2.length) = k + f2.length + f.length from by omega, e1, b1, Nat.add_assoc]
theorem rn_imp (h1 : RnR f d d0 m Q) (h : ∀ m2, Q m2 → frW d0 m m2 → Q2 m2) : RnR f d d0 m Q2 := by
  intro N j k a1 a2 a3 a4
  obtain ⟨m2, e1, e2, e3⟩ := h1 N j k a1 a2 a3 a4
  exact ⟨m2, e1, h m2 e2 e3, e3⟩
/-- one code -/
theorem rn_one (h : ∀ N j k, gI m 85 0 = nI N → N ≤ 1000 → j < N → gI m 86 j = x → f_X11_worked_L14 (k + 1) (nI 0) (nI d) (nI j) m = f_X11_worked_L14 k (nI 0) (nI d0) (nI (j + 1)) m2) (hq : Q m2) (hf : frW d0 m m2) : RnR [x] d d0 m Q := fun N j k a1 a2 a3 a4 => ⟨m2, h N j k a1 a2 a3 a4.1, hq, hf⟩
theorem sm_is (hd : d < 7) : f_X11_sums (nI d) m = some (sI (sI m 93 d (ptI m d)) 96 d 0) := by
  unfold f_X11_sums ptI
  have h31 : d < 2147483648 := by omega
  simp only [q_gd hd h31, q_ix h31, q_stI]
  split <;> rfl
theorem op_is (hd : d < 7) : ∃ m2, f_X11_opens (nI d) m = some m2 ∧ gI m2 90 d = 0 ∧ gI m2 92 d = 0 ∧ gI m2 93 d = 0 ∧ gI m2 94 d = 20 ∧ gI m2 96 d = 0 ∧ gI m2 97 d = gI m 97 d ∧ frW d m m2 := by
  unfold f_X11_opens
  have h31 : d < 2147483648 := by omega
  simp only [q_gd hd h31, q_ix h31, q_stI]
  refine ⟨_, rfl, ?_, ?_, ?_, ?_, ?_, ?_, frW_s (frW_s (frW_s (frW_s (frW_s frW_r (by omega)) (by omega)) (by omega)) (by omega)) (by omega)⟩
  · rw [g_ne (by omega), g_ne (by omega), g_ne (by omega), g_ne (by omega), g_eq]
  · rw [g_ne (by omega), g_ne (by omega), g_ne (by omega), g_eq]
  · rw [g_ne (by omega), g_ne (by omega), g_eq]
  · rw [g_ne (by omega), g_eq]
  · rw [g_eq]
  · rw [g_ne (by omega), g_ne (by omega), g_ne (by omega), g_ne (by omega), g_ne (by omega)]
theorem j136 (hd : d < 7) : f_X11_tests_J136 (nI d) v m = some (sI (sI (sI (sI m 89 d v) 92 d 0) 93 d 0) 94 d 20) := by
  unfold f_X11_tests_J136
  have h31 : d < 2147483648 := by omega
  simp only [q_gd hd h31, q_ix h31, q_stI]
theorem j106 (hd : d < 7) : f_X11_tests_J106 (nI d) v m = f_X11_tests_J136 (nI d) (if gI m 90 d = 27 then (if gI m 89 d = 0 then (if v = 0 then 0 else 1) else 1) else v) m := by
  unfold f_X11_tests_J106 f_X11_tests_J130 f_X11_tests_J135
  rw [q_gd hd (by omega), q_gd hd (by omega), q_ix (by omega)]
  split
  · split
    · split <;> rfl
    · rfl
  · rfl
theorem j76 (hd : d < 7) : f_X11_tests_J76 (nI d) v m = f_X11_tests_J106 (nI d) (if gI m 90 d = 26 then (if gI m 89 d = 0 then 0 else if v = 0 then 0 else 1) else v) m := by
  unfold f_X11_tests_J76 f_X11_tests_J104 f_X11_tests_J105
  rw [q_gd hd (by omega), q_gd hd (by omega), q_ix (by omega)]
  split
  · split
    · rfl
    · split <;> rfl
  · rfl
theorem j44 (hd : d < 7) : f_X11_tests_J44 (nI d) v m = f_X11_tests_J76 (nI d) (if gI m 92 d = 25 then (if gI m 91 d = gI m 93 d then 1 else 0) else v) m := by
  unfold f_X11_tests_J44 f_X11_tests_J75
  rw [q_gd hd (by omega), q_gd hd (by omega), q_gd hd (by omega), q_ix (by omega)]
  split
  · split <;> rfl
  · rfl
theorem ts_is (hd : d < 7) : ∃ m2, f_X11_tests (nI d) m = some m2 ∧ gI m2 89 d = kvI m d ∧ gI m2 92 d = 0 ∧ gI m2 93 d = 0 ∧ gI m2 94 d = 20 ∧ gI m2 96 d = 0 ∧ gI m2 90 d = gI m 90 d ∧ gI m2 97 d = gI m 97 d ∧ frW d m m2 := by
  have e : f_X11_tests (nI d) m = some (sI (sI (sI (sI (sI (sI m 93 d (ptI m d)) 96 d 0) 89 d (kvI m d)) 92 d 0) 93 d 0) 94 d 20) := by
    have g90 : gI (sI (sI m 93 d (ptI m d)) 96 d 0) 90 d = gI m 90 d := by rw [g_ne (by omega), g_ne (by omega)]
    have g89 : gI (sI (sI m 93 d (ptI m d)) 96 d 0) 89 d = gI m 89 d := by rw [g_ne (by omega), g_ne (by omega)]
    have g91 : gI (sI (sI m 93 d (ptI m d)) 96 d 0) 91 d = gI m 91 d := by rw [g_ne (by omega), g_ne (by omega)]
    have g92 : gI (sI (sI m 93 d (ptI m d)) 96 d 0) 92 d = gI m 92 d := by rw [g_ne (by omega), g_ne (by omega)]
    have g93 : gI (sI (sI m 93 d (ptI m d)) 96 d 0) 93 d = ptI m d := by rw [g_ne (by omega), g_eq]
    unfold f_X11_tests f_X11_tests_J43
    rw [sm_is hd, q_bd1, q_gd hd (by omega), q_gd hd (by omega), q_gd hd (by omega), q_gd hd (by omega), q_ix (by omega), j44 hd, j44 hd, j44 hd, j76 hd, j76 hd, j76 hd, j106 hd, j106 hd, j106 hd, j136 hd, j136 hd, j136 hd, g90, g89, g91, g92, g93]
    unfold kvI tvI
    by_cases c24 : gI m 92 d = 24
    · have n25 : ¬ gI m 92 d = 25 := fun e => absurd (c24.symm.trans e) (by decide)
      by_cases c26 : gI m 90 d = 26
      · have n27 : ¬ gI m 90 d = 27 := fun e => absurd (c26.symm.trans e) (by decide)
        by_cases cl : gI m 91 d < ptI m d <;> simp only [eq_true c24, eq_false n25, eq_true c26, eq_false n27, cl, if_true, if_false]
      · by_cases cl : gI m 91 d < ptI m d <;> simp only [eq_true c24, eq_false n25, eq_false c26, cl, if_true, if_false]
    · by_cases c26 : gI m 90 d = 26
      · have n27 : ¬ gI m 90 d = 27 := fun e => absurd (c26.symm.trans e) (by decide)
        simp only [eq_false c24, eq_true c26, eq_false n27, if_true, if_false]
      · simp only [eq_false c24, eq_false c26, if_true, if_false]
  refine ⟨_, e, ?_, ?_, ?_, ?_, ?_, ?_, ?_, frW_s (frW_s (frW_s (frW_s (frW_s (frW_s frW_r (by omega)) (by omega)) (by omega)) (by omega)) (by omega)) (by omega)⟩
  · rw [g_ne (by omega), g_ne (by omega), g_ne (by omega), g_eq]
  · rw [g_ne (by omega), g_ne (by omega), g_eq]
  · rw [g_ne (by omega), g_eq]
  · rw [g_eq]
  · rw [g_ne (by omega), g_ne (by omega), g_ne (by omega), g_ne (by omega), g_eq]
  · rw [g_ne (by omega), g_ne (by omega), g_ne (by omega), g_ne (by omega), g_ne (by omega), g_ne (by omega)]
  · rw [g_ne (by omega), g_ne (by omega), g_ne (by omega), g_ne (by omega), g_ne (by omega), g_ne (by omega)]
theorem q_0lt (h : 0 < d) (h2 : d < 2147483648) : (0 : Int32) < nI d := (q_ltp (a := 0) (by omega) h2).mpr h
/-- going back over the nots -/
theorem w268 {K : Int32 → Int32 → Mm → Option (Int32 × Mm)} {v1 v3 : Int32} : ∀ (n k d : Nat) (v : Int32), d = d0 + n → d < 7 → n < k → UwN 97 m d d0 → f_X11_worked_L268 v1 v3 K k (nI d) v m = K (nI d0) (ngN n v) m
  | 0, k + 1, d, v, hd, h7, hk, h => by
    have e : d = d0 := by omega
    subst e
    rw [f_X11_worked_L268]
    by_cases h0 : d = 0
    · subst h0
      rw [if_neg (by decide)]; rfl
    · rw [if_pos (q_0lt (by omega) (by omega)), q_gd h7 (by omega), q_ix (by omega), if_neg (by
        rcases h.2.2 with h2 | h2
        · exact absurd h2 h0
        · exact h2)]; rfl
  | n + 1, k + 1, d, v, hd, h7, hk, h => by
    have e1 : nI d + (-1 : Int32) = nI (d - 1) := by
      have := q_sub1 (n := d) (by omega)
      rw [← this, Int32.sub_eq_add_neg]
      rfl
    have ih := w268 (K := K) (v1 := v1) (v3 := v3) n k (d - 1) (ngI v) (by omega) (by omega) (by omega) ⟨by omega, fun i h1 h2 => h.2.1 i h1 (by omega), h.2.2⟩
    rw [f_X11_worked_L268, if_pos (q_0lt (by omega) (by omega)), q_gd h7 (by omega), q_ix (by omega), if_pos (h.2.1 d (by omega) (by omega)), e1]
    unfold ngI at ih
    show _ = K (nI d0) (ngN n (ngI v)) m
    unfold ngI
    by_cases hv : v = 0
    · rw [if_pos hv] at ih ⊢
      rw [if_pos hv]
      exact ih
    · rw [if_neg hv] at ih ⊢
      rw [if_neg hv]
      exact ih
/-- a term is there -/
theorem w300 {K : Int32 → Int32 → Int32 → Mm → Option (Int32 × Mm)} (hd : d < 7) : f_X11_worked_J300 K (nI 0) (nI d) (nI j) v m = K (nI 0) (nI d) (nI (j + 1)) (sI m 95 d (if gI m 96 d = 0 then v else gI m 95 d * v)) := by
  unfold f_X11_worked_J300
  have h31 : d < 2147483648 := by omega
  simp only [q_gd hd h31, q_ix h31, q_stI, q_l1, nI_add]
  split <;> rfl
/-- which way a code goes -/
theorem w14 (h85 : gI m 85 0 = nI N) (hN : N ≤ 1000) (hj : j < N) (hx : gI m 86 j = x) : f_X11_worked_L14 (k + 1) (nI 0) (nI d) (nI j) m = (if x = (28 : Int32) then f_X11_worked_J46 (fun w1 w2 w3 m => f_X11_worked_L14 k w1 w2 w3 m) (nI 0) (nI d) (nI j) x m else (if x = (30 : Int32) then f_X11_worked_J46 (fun w1 w2 w3 m => f_X11_worked_L14 k w1 w2 w3 m) (nI 0) (nI d) (nI j) x m else (if x = (20 : Int32) then f_X11_worked_J89 (fun w1 w2 w3 m => f_X11_worked_L14 k w1 w2 w3 m) (nI 0) (nI d) (nI j) x m else (if x = (21 : Int32) then f_X11_worked_J89 (fun w1 w2 w3 m => f_X11_worked_L14 k w1 w2 w3 m) (nI 0) (nI d) (nI j) x m else (if x = (22 : Int32) then gd (inb (nI d) 7) (stI m 96 (ix (nI d)) x (fun m25 => f_X11_worked_L14 k (nI 0) (nI d) (nI j + (1 : Int32)) m25)) else (if x = (24 : Int32) then f_X11_worked_J137 (fun w1 w2 w3 m => f_X11_worked_L14 k w1 w2 w3 m) (nI 0) (nI d) (nI j) x m else (if x = (25 : Int32) then f_X11_worked_J137 (fun w1 w2 w3 m => f_X11_worked_L14 k w1 w2 w3 m) (nI 0) (nI d) (nI j) x m else (if x = (26 : Int32) then f_X11_worked_J194 (fun w1 w2 w3 m => f_X11_worked_L14 k w1 w2 w3 m) (nI 0) (nI d) (nI j) x m else (if x = (27 : Int32) then f_X11_worked_J194 (fun w1 w2 w3 m => f_X11_worked_L14 k w1 w2 w3 m) (nI 0) (nI d) (nI j) x m else (if x < (100 : Int32) then (if x < (20 : Int32) then gd (inb x 20) (f_X11_worked_J243 (fun w1 w2 w3 m => f_X11_worked_L14 k w1 w2 w3 m) (nI 0) (nI d) (nI j) x (gI m 98 (ix x)) m) else f_X11_worked_J243 (fun w1 w2 w3 m => f_X11_worked_L14 k w1 w2 w3 m) (nI 0) (nI d) (nI j) x (0 : Int32) m) else f_X11_worked_J243 (fun w1 w2 w3 m => f_X11_worked_L14 k w1 w2 w3 m) (nI 0) (nI d) (nI j) x (x - (100 : Int32)) m)))))))))) := by
  have i0 : ix (nI 0) = 0 := rfl
  rw [f_X11_worked_L14, q_gd (i := 0) (by omega) (by omega), i0, h85, if_pos ((q_ltp (by omega) (by omega)).mpr hj), q_gd (by omega) (by omega), q_ix (by omega), hx]
/-- a value: at the place to which the nots go back -/
theorem rv_243 (hd : d < 7) (hx : ¬ x = 29) (hU : UwN 97 m d d0) : f_X11_worked_J243 (fun w1 w2 w3 m => f_X11_worked_L14 k w1 w2 w3 m) (nI 0) (nI d) (nI j) x v m = f_X11_worked_L14 k (nI 0) (nI d0) (nI (j + 1)) (sI m 95 d0 (if gI m 96 d0 = 0 then ngN (d - d0) v else gI m 95 d0 * ngN (d - d0) v)) := by
  have h1 := hU.1
  unfold f_X11_worked_J243
  rw [if_neg hx, w268 (d - d0) FU d v (by omega) hd (by show _ < 4096; omega) hU, w300 (by omega)]
end EvR1
