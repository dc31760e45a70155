/-! MATH HALF: the value of an expression, the class's codes -/
def Seg (b : Nat) : Nat → List Int32 → Mm → Prop
  | _, [], _ => True
  | n, x :: l, m => gI m b n = x ∧ Seg b (n + 1) l m
def EvC (x1 x2 x3 x4 : Int32) (U : Nat) (p : List Int32) (v : Int32) : Prop := ∀ t m N j k s, gI m (t + 4) 1 = nI N → N ≤ 1000 → j + p.length ≤ N → Seg (t + 5) j p m → gI m (t + 4) 3 = nI s → s + U ≤ 24 → ∃ m2, f_X3_parityOf_L15 (t + 4) (k + p.length) x1 x2 x3 x4 (nI j) m = f_X3_parityOf_L15 (t + 4) k x1 x2 x3 x4 (nI (j + p.length)) m2 ∧ gI m2 (t + 4) 3 = nI (s + 1) ∧ gI m2 (t + 6) s = v ∧ (∀ i, i < s → gI m2 (t + 6) i = gI m (t + 6) i) ∧ lwS t m m2
section EvC1
variable {t b n j k s U U2 N : Nat} {m m2 m3 : Mm} {x1 x2 x3 x4 v w y x : Int32} {p p2 l l2 : List Int32}
theorem Seg_app : Seg b n (l ++ l2) m ↔ Seg b n l m ∧ Seg b (n + l.length) l2 m := by
  induction l generalizing n with
  | nil => simp [Seg]
  | cons a l ih =>
    simp only [List.cons_append, Seg, List.length_cons]
    rw [ih, show n + 1 + l.length = n + (l.length + 1) from by omega]
    exact and_assoc.symm
theorem Seg_fr (h : Seg b n l m) (hf : ∀ i, n ≤ i → i < n + l.length → gI m2 b i = gI m b i) : Seg b n l m2 := by
  induction l generalizing n with
  | nil => trivial
  | cons a l ih =>
    simp only [List.length_cons] at hf
    exact ⟨(hf n (by omega) (by omega)).trans h.1, ih h.2 (fun i h1 h2 => hf i (by omega) (by omega))⟩
theorem lwS_s {i : Nat} (h1 : lwS t m m2) (h : (b = t + 4 ∧ i = 3) ∨ b = t + 6) : lwS t m (sI m2 b i y) := ⟨h1.1, fun c j k1 k2 => by
  simp only [sI]
  rw [if_neg (by omega)]
  exact h1.2 c j k1 k2⟩
theorem x_push (h : gI m (t + 4) 3 = nI s) (hs : s < 24) : f_X3_push (t + 4) y m = some (sI (sI m (t + 6) s y) (t + 4) 3 (nI (s + 1))) := by
  unfold f_X3_push
  rw [h, q_l24, if_pos ((q_ltp (by omega) (by omega)).mpr hs), q_gd hs (by omega), q_ix (by omega), q_stI, q_stI, g_ne (by omega), h, q_l1, nI_add]
theorem x_pop (h : gI m (t + 4) 3 = nI (s + 1)) (hs : s < 24) : f_X3_pop (t + 4) m = some (gI m (t + 6) s, sI m (t + 4) 3 (nI s)) := by
  unfold f_X3_pop
  rw [h, q_l1, if_neg (fun e => absurd ((q_ltp (by omega) (by omega)).mp e) (by omega)), q_sub1 (by omega), Nat.add_sub_cancel, q_stI, g_eq, q_gd hs (by omega), q_ix (by omega), g_ne (by omega)]
/-- a code that pushes a value -/
theorem ec_one (hx : ∀ (t k j N : Nat) (m : Mm), j < N → N ≤ 1000 → gI m (t + 4) 1 = nI N → gI m (t + 5) j = x → f_X3_parityOf_L15 (t + 4) (k + 1) x1 x2 x3 x4 (nI j) m = bd1 (f_X3_push (t + 4) v m) (fun m2 => f_X3_parityOf_L15 (t + 4) k x1 x2 x3 x4 (nI (j + 1)) m2)) (hU : 1 ≤ U) : EvC x1 x2 x3 x4 U [x] v := by
  intro t m N j k s h1 h2 h3 h4 h5 h6
  simp only [List.length_singleton] at h3 ⊢
  rw [hx t k j N m (by omega) h2 h1 h4.1, x_push h5 (by omega), q_bd1]
  refine ⟨_, rfl, g_eq, ?_, fun i hi => ?_, lwS_s (lwS_s lwS_r (by omega)) (by omega)⟩
  · rw [g_ne (by omega), g_eq]
  · rw [g_ne (by omega), g_ne (by omega)]
theorem ec_num (hn : n < 10000) (hU : 1 ≤ U) : EvC x1 x2 x3 x4 U [nI n] (nI n) := by
  refine ec_one (fun t k j N m h1 h2 h3 h4 => ?_) hU
  have hneg : ∀ c : Int32, c < 0 → ¬ nI n = c := fun c hc e => by
    rw [← e] at hc
    exact nI_pos (by show _ < 2147483648; omega) hc
  rw [f_X3_parityOf_L15, h3, if_pos ((q_ltp (by omega) (by omega)).mpr h1), q_gd (by omega) (by omega), q_ix (by omega)]
  rw [show t + 4 + 1 = t + 5 from rfl, h4, if_neg (hneg _ (by decide)), if_neg (hneg _ (by decide)), if_neg (hneg _ (by decide)), if_neg (hneg _ (by decide)), if_neg (hneg _ (by decide)), q_gd (by omega) (by omega)]
  unfold f_X3_pushOther
  rw [if_neg (nI_pos (by show _ < 2147483648; omega)), q_l1, nI_add]
  cases f_X3_push (t + 4) (nI n) m <;> rfl
theorem ec_var (hU : 1 ≤ U) : EvC x1 x2 x3 x4 U [-2] x1 ∧ EvC x1 x2 x3 x4 U [-3] x2 ∧ EvC x1 x2 x3 x4 U [-4] x3 ∧ EvC x1 x2 x3 x4 U [-5] x4 := by
  refine ⟨ec_one (fun t k j N m h1 h2 h3 h4 => ?_) hU, ec_one (fun t k j N m h1 h2 h3 h4 => ?_) hU, ec_one (fun t k j N m h1 h2 h3 h4 => ?_) hU, ec_one (fun t k j N m h1 h2 h3 h4 => ?_) hU⟩
  · rw [f_X3_parityOf_L15, h3, if_pos ((q_ltp (by omega) (by omega)).mpr h1), q_gd (by omega) (by omega), q_ix (by omega), show t + 4 + 1 = t + 5 from rfl, h4, if_neg (by decide), if_neg (by decide), if_neg (by decide), if_neg (by decide), if_pos rfl, q_l1, nI_add]
  · rw [f_X3_parityOf_L15, h3, if_pos ((q_ltp (by omega) (by omega)).mpr h1), q_gd (by omega) (by omega), q_ix (by omega), show t + 4 + 1 = t + 5 from rfl, h4, if_neg (by decide), if_neg (by decide), if_neg (by decide), if_pos rfl, q_l1, nI_add]
  · rw [f_X3_parityOf_L15, h3, if_pos ((q_ltp (by omega) (by omega)).mpr h1), q_gd (by omega) (by omega), q_ix (by omega), show t + 4 + 1 = t + 5 from rfl, h4, if_neg (by decide), if_neg (by decide), if_pos rfl, q_l1, nI_add]
  · rw [f_X3_parityOf_L15, h3, if_pos ((q_ltp (by omega) (by omega)).mpr h1), q_gd (by omega) (by omega), q_ix (by omega), show t + 4 + 1 = t + 5 from rfl, h4, if_neg (by decide), if_pos rfl, q_l1, nI_add]
def ngI (v : Int32) : Int32 := if v = 0 then 1 else 0
theorem lw_1 (h : lwS t m m2) : gI m2 (t + 4) 1 = gI m (t + 4) 1 := h.2 _ _ (by omega) (by omega)
theorem lw_5 {i : Nat} (h : lwS t m m2) : gI m2 (t + 5) i = gI m (t + 5) i := h.2 _ _ (by omega) (by omega)
theorem ec_not (h : EvC x1 x2 x3 x4 U p v) (hU : 1 ≤ U) : EvC x1 x2 x3 x4 U (p ++ [-6]) (ngI v) := by
  intro t m N j k s h1 h2 h3 h4 h5 h6
  simp only [List.length_append, List.length_singleton] at h3 ⊢
  obtain ⟨s1, s2⟩ := Seg_app.mp h4
  obtain ⟨m2, e1, e2, e3, e4, e5⟩ := h t m N j (k + 1) s h1 h2 (by omega) s1 h5 h6
  have l1 : gI m2 (t + 4) 1 = nI N := (lw_1 e5).trans h1
  have l5 : gI m2 (t + 5) (j + p.length) = -6 := (lw_5 e5).trans s2.1
  have g3 : gI (sI m2 (t + 4) 3 (nI s)) (t + 4) 3 = nI s := g_eq
  rw [show k + (p.length + 1) = k + 1 + p.length from by omega, e1, f_X3_parityOf_L15, l1, if_pos ((q_ltp (by omega) (by omega)).mpr (by omega)), q_gd (by omega) (by omega), q_ix (by omega), show t + 4 + 1 = t + 5 from rfl, l5, if_pos rfl, x_pop e2 (by omega), q_bd2, e3, q_l1, nI_add, x_push g3 (by omega), x_push g3 (by omega), q_bd1, q_bd1]
  have hl : ∀ y, lwS t m (sI (sI (sI m2 (t + 4) 3 (nI s)) (t + 6) s y) (t + 4) 3 (nI (s + 1))) := fun y => lwS_s (lwS_s (lwS_s e5 (by omega)) (by omega)) (by omega)
  have hg : ∀ y i, i < s → gI (sI (sI (sI m2 (t + 4) 3 (nI s)) (t + 6) s y) (t + 4) 3 (nI (s + 1))) (t + 6) i = gI m (t + 6) i := fun y i hi => by
    rw [g_ne (by omega), g_ne (by omega), g_ne (by omega)]
    exact e4 i hi
  by_cases hv : v = 0
  · rw [if_pos hv]
    refine ⟨_, rfl, g_eq, ?_, hg _, hl _⟩
    rw [g_ne (by omega), g_eq]
    unfold ngI
    rw [if_pos hv]
    rfl
  · rw [if_neg hv]
    refine ⟨_, rfl, g_eq, ?_, hg _, hl _⟩
    rw [g_ne (by omega), g_eq]
    unfold ngI
    rw [if_neg hv]
/-- what two values joined give -/
def jnI (x v w : Int32) : Int32 := if x = (-12 : Int32) then v - w else if x = (-11 : Int32) then v + w else if x = (-10 : Int32) then (if v = w then 1 else 0) else if x = (-9 : Int32) then (if v < w then 1 else 0) else if x = (-8 : Int32) then (if v = 0 then (if w = 0 then 0 else 1) else 1) else if x = (-7 : Int32) then (if v = 0 then 0 else if w = 0 then 0 else 1) else v * w
theorem x_join : f_X3_joined x v w m = some (jnI x v w, m) := by
  unfold f_X3_joined jnI
  repeat' split
  all_goals first | rfl | skip
theorem ec_op (h : EvC x1 x2 x3 x4 (U + 1) p v) (hb : EvC x1 x2 x3 x4 U p2 w) (hU : 1 ≤ U) (hx : x < -6) : EvC x1 x2 x3 x4 (U + 1) (p ++ p2 ++ [x]) (jnI x v w) := by
  intro t m N j k s h1 h2 h3 h4 h5 h6
  simp only [List.length_append, List.length_singleton] at h3 ⊢
  obtain ⟨s12, s3⟩ := Seg_app.mp h4
  obtain ⟨s1, s2⟩ := Seg_app.mp s12
  obtain ⟨m2, e1, e2, e3, e4, e5⟩ := h t m N j (k + 1 + p2.length) s h1 h2 (by omega) s1 h5 h6
  have l1 : gI m2 (t + 4) 1 = nI N := (lw_1 e5).trans h1
  obtain ⟨m3, d1, d2, d3, d4, d5⟩ := hb t m2 N (j + p.length) (k + 1) (s + 1) l1 h2 (by omega) (Seg_fr s2 (fun i _ _ => lw_5 e5)) e2 (by omega)
  have e15 := lwS_t e5 d5
  have l3 : gI m3 (t + 4) 1 = nI N := (lw_1 e15).trans h1
  have l5 : gI m3 (t + 5) (j + p.length + p2.length) = x := by
    refine (lw_5 e15).trans ?_
    have := s3.1
    rw [List.length_append] at this
    rw [Nat.add_assoc]
    exact this
  have v3 : gI m3 (t + 6) s = v := (d4 s (by omega)).trans e3
  have g3 : gI (sI m3 (t + 4) 3 (nI (s + 1))) (t + 4) 3 = nI (s + 1) := g_eq
  have g6 : gI (sI m3 (t + 4) 3 (nI (s + 1))) (t + 6) s = v := by rw [g_ne (by omega)]; exact v3
  have g4 : gI (sI (sI m3 (t + 4) 3 (nI (s + 1))) (t + 4) 3 (nI s)) (t + 4) 3 = nI s := g_eq
  have hne : ∀ c : Int32, -6 ≤ c → ¬ x = c := fun c hc e => by
    rw [e] at hx
    rw [Int32.lt_iff_toInt_lt] at hx
    rw [Int32.le_iff_toInt_le] at hc
    omega
  have hlt : x < 0 := by
    rw [Int32.lt_iff_toInt_lt] at hx ⊢
    have e1 : (-6 : Int32).toInt = -6 := by decide
    have e2 : (0 : Int32).toInt = 0 := by decide
    omega
  rw [show k + (p.length + p2.length + 1) = k + 1 + p2.length + p.length from by omega, e1, d1, f_X3_parityOf_L15, l3, if_pos ((q_ltp (by omega) (by omega)).mpr (by omega)), q_gd (by omega) (by omega), q_ix (by omega), show t + 4 + 1 = t + 5 from rfl, l5, if_neg (hne _ (by decide)), if_neg (hne _ (by decide)), if_neg (hne _ (by decide)), if_neg (hne _ (by decide)), if_neg (hne _ (by decide)), q_gd (by omega) (by omega)]
  unfold f_X3_pushOther
  rw [if_pos hlt, x_pop d2 (by omega), q_bd2, x_pop g3 (by omega), q_bd2, g6, d3, x_join, q_bd2, x_push g4 (by omega), q_bd1, q_bd1, q_l1, nI_add]
  rw [show j + (p.length + p2.length + 1) = j + p.length + p2.length + 1 from by omega]
  refine ⟨_, rfl, g_eq, ?_, fun i hi => ?_, lwS_s (lwS_s (lwS_s (lwS_s e15 (by omega)) (by omega)) (by omega)) (by omega)⟩
  · rw [g_ne (by omega), g_eq]
  · rw [g_ne (by omega), g_ne (by omega), g_ne (by omega), g_ne (by omega)]
    exact (d4 i (by omega)).trans (e4 i hi)
theorem ec_mono (h : EvC x1 x2 x3 x4 U p v) (hU : U ≤ U2) : EvC x1 x2 x3 x4 U2 p v := fun t m N j k s h1 h2 h3 h4 h5 h6 => h t m N j k s h1 h2 h3 h4 h5 (by omega)
end EvC1
