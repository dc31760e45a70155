/-! MATH HALF: the law's calls, and all of them -/
section LawC1
variable {L j B t u w v k : Nat} {xs : Nat → Int32} {x : Option Nat} {K : Nat → Nat → Nat → Nat → Option Nat → Mm → Option Unit} {m : Mm}
theorem gj1 {α : Type} {A : Option α} (hj : j + 6 < L) (hL : L ≤ 3584) : gd (inb (nI j + (1 : Int32)) L) A = A := by
  rw [q_l1, nI_add]
  exact q_gd (by omega) (by omega)
theorem gj2 {α : Type} {A : Option α} (hj : j + 6 < L) (hL : L ≤ 3584) : gd (inb (nI j + (2 : Int32)) L) A = A := by
  rw [q_l2, nI_add]
  exact q_gd (by omega) (by omega)
theorem gj3 {α : Type} {A : Option α} (hj : j + 6 < L) (hL : L ≤ 3584) : gd (inb (nI j + (3 : Int32)) L) A = A := by
  rw [q_l3, nI_add]
  exact q_gd (by omega) (by omega)
theorem gj4 {α : Type} {A : Option α} (hj : j + 6 < L) (hL : L ≤ 3584) : gd (inb (nI j + (4 : Int32)) L) A = A := by
  rw [q_l4, nI_add]
  exact q_gd (by omega) (by omega)
theorem gj5 {α : Type} {A : Option α} (hj : j + 6 < L) (hL : L ≤ 3584) : gd (inb (nI j + (5 : Int32)) L) A = A := by
  rw [q_l5, nI_add]
  exact q_gd (by omega) (by omega)
theorem gj6 {α : Type} {A : Option α} (hj : j + 6 < L) (hL : L ≤ 3584) : gd (inb (nI j + (6 : Int32)) L) A = A := by
  rw [q_l6, nI_add]
  exact q_gd (by omega) (by omega)
theorem q_case {f g : Mm → Option (Int32 × Mm)} {Kk : Mm → Option Unit} {I : Mm → Prop} (h : ∃ r m1 m2, f m = some (r, m1) ∧ g m1 = some (r, m2) ∧ I m2) (hK : ∀ m', I m' → Kk m' = some ()) : bd2 (f m) (fun r2 m1 => bd2 (g m1) (fun r4 m3 => if r2 = r4 then Kk m3 else none)) = some () := by
  obtain ⟨r, m1, m2, e1, e2, e3⟩ := h
  rw [e1, q_bd2, e2, q_bd2, if_pos rfl]
  exact hK m2 e3
theorem lc_0 (h : Inv t u w v B m) (hj : j + 6 < L) (hL : L ≤ 3584) (hK : ∀ t u w v x m, Inv t u w v (B + 80) m → K t u w v x m = some ()) : f_law_c0 L xs t u w v x K (nI j) m = some () := by
  unfold f_law_c0
  simp only [gj1 hj hL, gj2 hj hL, gj3 hj hL, gj4 hj hL, gj5 hj hL, gj6 hj hL]
  exact q_case (I := fun m => Inv t u w v (B + 80) m) (i_feed h) (fun m' hm => hK _ _ _ _ _ _ hm)
theorem lc_1 (h : Inv t u w v B m) (hj : j + 6 < L) (hL : L ≤ 3584) (hK : ∀ t u w v x m, Inv t u w v (B + 80) m → K t u w v x m = some ()) : f_law_c1 L xs t u w v x K (nI j) m = some () := by
  unfold f_law_c1
  obtain ⟨F, m1, m2, e0, e1, e2, e3, e4⟩ := i_array h
  rw [e1, q_bd2]
  by_cases hz : F = 0
  · subst hz
    rw [if_pos (by rfl), e2, q_bd2, if_pos rfl]
    exact hK _ _ _ _ _ _ (e4 rfl)
  · rw [if_neg (show ¬ nI F = (0 : Int32) from fun e => hz ((q_eq (b := 0) (by omega) (by omega)).mp e)), e2, q_bd2, if_pos rfl]
    exact hK _ _ _ _ _ _ (e3 hz)
theorem lc_2 (h : Inv t u w v B m) (hj : j + 6 < L) (hL : L ≤ 3584) (hK : ∀ t u w v x m, Inv t u w v (B + 80) m → K t u w v x m = some ()) : f_law_c2 L xs t u w v x K (nI j) m = some () := by
  unfold f_law_c2
  obtain ⟨F, m1, m2, e0, e1, e2, e3, e4⟩ := i_work h
  rw [e1, q_bd2]
  by_cases hz : F = 0
  · subst hz
    rw [if_pos (by rfl), e2, q_bd2, if_pos rfl]
    exact hK _ _ _ _ _ _ (e4 rfl)
  · rw [if_neg (show ¬ nI F = (0 : Int32) from fun e => hz ((q_eq (b := 0) (by omega) (by omega)).mp e)), e2, q_bd2, if_pos rfl]
    exact hK _ _ _ _ _ _ (e3 hz)
theorem lc_3 (h : Inv t u w v B m) (hj : j + 6 < L) (hL : L ≤ 3584) (hK : ∀ t u w v x m, Inv t u w v (B + 80) m → K t u w v x m = some ()) : f_law_c3 L xs t u w v x K (nI j) m = some () := by
  unfold f_law_c3
  simp only [gj1 hj hL, gj2 hj hL, gj3 hj hL, gj4 hj hL, gj5 hj hL, gj6 hj hL]
  exact q_case (I := fun m => Inv t u w v (B + 80) m) (i_stripe h) (fun m' hm => hK _ _ _ _ _ _ hm)
theorem lc_4 (h : Inv t u w v B m) (hj : j + 6 < L) (hL : L ≤ 3584) (hK : ∀ t u w v x m, Inv t u w v (B + 80) m → K t u w v x m = some ()) : f_law_c4 L xs t u w v x K (nI j) m = some () := by
  unfold f_law_c4
  simp only [gj1 hj hL, gj2 hj hL, gj3 hj hL, gj4 hj hL, gj5 hj hL, gj6 hj hL]
  exact q_case (I := fun m => Inv t u w v (B + 80) m) (i_unit h) (fun m' hm => hK _ _ _ _ _ _ hm)
theorem lc_5 (h : Inv t u w v B m) (hj : j + 6 < L) (hL : L ≤ 3584) (hK : ∀ t u w v x m, Inv t u w v (B + 80) m → K t u w v x m = some ()) : f_law_c5 L xs t u w v x K (nI j) m = some () := by
  unfold f_law_c5
  simp only [gj1 hj hL, gj2 hj hL, gj3 hj hL, gj4 hj hL, gj5 hj hL, gj6 hj hL]
  exact q_case (I := fun m => Inv t u w v (B + 80) m) (i_datum h) (fun m' hm => hK _ _ _ _ _ _ hm)
theorem lc_6 (h : Inv t u w v B m) (hj : j + 6 < L) (hL : L ≤ 3584) (hK : ∀ t u w v x m, Inv t u w v (B + 80) m → K t u w v x m = some ()) : f_law_c6 L xs t u w v x K (nI j) m = some () := by
  unfold f_law_c6
  simp only [gj1 hj hL, gj2 hj hL, gj3 hj hL, gj4 hj hL, gj5 hj hL, gj6 hj hL]
  exact q_case (I := fun m => Inv t u w v (B + 80) m) (i_at h) (fun m' hm => hK _ _ _ _ _ _ hm)
theorem lc_7 (h : Inv t u w v B m) (hj : j + 6 < L) (hL : L ≤ 3584) (hK : ∀ t u w v x m, Inv t u w v (B + 80) m → K t u w v x m = some ()) : f_law_c7 L xs t u w v x K (nI j) m = some () := by
  unfold f_law_c7
  simp only [gj1 hj hL, gj2 hj hL, gj3 hj hL, gj4 hj hL, gj5 hj hL, gj6 hj hL]
  exact q_case (I := fun m => Inv t u w v (B + 80) m) (i_disk h) (fun m' hm => hK _ _ _ _ _ _ hm)
theorem lc_8 (h : Inv t u w v B m) (hj : j + 6 < L) (hL : L ≤ 3584) (hK : ∀ t u w v x m, Inv t u w v (B + 80) m → K t u w v x m = some ()) : f_law_c8 L xs t u w v x K (nI j) m = some () := by
  unfold f_law_c8
  simp only [gj1 hj hL, gj2 hj hL, gj3 hj hL, gj4 hj hL, gj5 hj hL, gj6 hj hL]
  exact q_case (I := fun m => Inv t u w v (B + 80) m) (i_read h) (fun m' hm => hK _ _ _ _ _ _ hm)
theorem lc_9 (h : Inv t u w v B m) (hj : j + 6 < L) (hL : L ≤ 3584) (hK : ∀ t u w v x m, Inv t u w v (B + 80) m → K t u w v x m = some ()) : f_law_c9 L xs t u w v x K (nI j) m = some () := by
  unfold f_law_c9
  simp only [gj1 hj hL, gj2 hj hL, gj3 hj hL, gj4 hj hL, gj5 hj hL, gj6 hj hL]
  exact q_case (I := fun m => Inv t u w v (B + 80) m) (i_write h) (fun m' hm => hK _ _ _ _ _ _ hm)
theorem lc_10 (h : Inv t u w v B m) (hj : j + 6 < L) (hL : L ≤ 3584) (hK : ∀ t u w v x m, Inv t u w v (B + 80) m → K t u w v x m = some ()) : f_law_c10 L xs t u w v x K (nI j) m = some () := by
  unfold f_law_c10
  simp only [gj1 hj hL, gj2 hj hL, gj3 hj hL, gj4 hj hL, gj5 hj hL, gj6 hj hL]
  exact q_case (I := fun m => Inv t u w v (B + 80) m) (i_lose h) (fun m' hm => hK _ _ _ _ _ _ hm)
theorem lc_11 (h : Inv t u w v B m) (hj : j + 6 < L) (hL : L ≤ 3584) (hK : ∀ t u w v x m, Inv t u w v (B + 80) m → K t u w v x m = some ()) : f_law_c11 L xs t u w v x K (nI j) m = some () := by
  unfold f_law_c11
  simp only [gj1 hj hL, gj2 hj hL, gj3 hj hL, gj4 hj hL, gj5 hj hL, gj6 hj hL]
  exact q_case (I := fun m => Inv t u w v (B + 80) m) (i_replace h) (fun m' hm => hK _ _ _ _ _ _ hm)
theorem lc_12 (h : Inv t u w v B m) (hj : j + 6 < L) (hL : L ≤ 3584) (hK : ∀ t u w v x m, Inv t u w v (B + 80) m → K t u w v x m = some ()) : f_law_c12 L xs t u w v x K (nI j) m = some () := by
  unfold f_law_c12
  simp only [gj1 hj hL, gj2 hj hL, gj3 hj hL, gj4 hj hL, gj5 hj hL, gj6 hj hL]
  exact q_case (I := fun m => Inv t u w v (B + 80) m) (i_rebuild h) (fun m' hm => hK _ _ _ _ _ _ hm)
theorem lc_13 (h : Inv t u w v B m) (hj : j + 6 < L) (hL : L ≤ 3584) (hK : ∀ t u w v x m, Inv t u w v (B + 80) m → K t u w v x m = some ()) : f_law_c13 L xs t u w v x K (nI j) m = some () := by
  unfold f_law_c13
  simp only [gj1 hj hL, gj2 hj hL, gj3 hj hL, gj4 hj hL, gj5 hj hL, gj6 hj hL]
  exact q_case (I := fun m => Inv t u w v (B + 80) m) (i_home h) (fun m' hm => hK _ _ _ _ _ _ hm)
theorem lc_14 (h : Inv t u w v B m) (hj : j + 6 < L) (hL : L ≤ 3584) (hK : ∀ t u w v x m, Inv t u w v (B + 80) m → K t u w v x m = some ()) : f_law_c14 L xs t u w v x K (nI j) m = some () := by
  unfold f_law_c14
  simp only [gj1 hj hL, gj2 hj hL, gj3 hj hL, gj4 hj hL, gj5 hj hL, gj6 hj hL]
  exact q_case (I := fun m => Inv t u w v (B + 80) m) (i_judged h) (fun m' hm => hK _ _ _ _ _ _ hm)
theorem lc_15 (h : Inv t u w v B m) (hj : j + 6 < L) (hL : L ≤ 3584) (hK : ∀ t u w v x m, Inv t u w v (B + 80) m → K t u w v x m = some ()) : f_law_c15 L xs t u w v x K (nI j) m = some () := by
  unfold f_law_c15
  simp only [gj1 hj hL, gj2 hj hL, gj3 hj hL, gj4 hj hL, gj5 hj hL, gj6 hj hL]
  exact q_case (I := fun m => Inv t u w v (B + 80) m) (i_pairs h) (fun m' hm => hK _ _ _ _ _ _ hm)
theorem lc_16 (h : Inv t u w v B m) (hj : j + 6 < L) (hL : L ≤ 3584) (hK : ∀ t u w v x m, Inv t u w v (B + 80) m → K t u w v x m = some ()) : f_law_c16 L xs t u w v x K (nI j) m = some () := by
  unfold f_law_c16
  exact q_case (I := fun m => Inv t u w v (B + 80) m) (i_even h) (fun m' hm => hK _ _ _ _ _ _ hm)
theorem lc_17 (h : Inv t u w v B m) (hj : j + 6 < L) (hL : L ≤ 3584) (hK : ∀ t u w v x m, Inv t u w v (B + 80) m → K t u w v x m = some ()) : f_law_c17 L xs t u w v x K (nI j) m = some () := by
  unfold f_law_c17
  simp only [gj1 hj hL, gj2 hj hL, gj3 hj hL, gj4 hj hL, gj5 hj hL, gj6 hj hL]
  exact q_case (I := fun m => Inv t u w v (B + 80) m) (i_worst h) (fun m' hm => hK _ _ _ _ _ _ hm)
theorem lc_18 (h : Inv t u w v B m) (hj : j + 6 < L) (hL : L ≤ 3584) (hK : ∀ t u w v x m, Inv t u w v (B + 80) m → K t u w v x m = some ()) : f_law_c18 L xs t u w v x K (nI j) m = some () := by
  unfold f_law_c18
  simp only [gj1 hj hL, gj2 hj hL, gj3 hj hL, gj4 hj hL, gj5 hj hL, gj6 hj hL]
  exact q_case (I := fun m => Inv t u w v (B + 80) m) (i_spread h) (fun m' hm => hK _ _ _ _ _ _ hm)
theorem lc_19 (h : Inv t u w v B m) (hj : j + 6 < L) (hL : L ≤ 3584) (hK : ∀ t u w v x m, Inv t u w v (B + 80) m → K t u w v x m = some ()) : f_law_c19 L xs t u w v x K (nI j) m = some () := by
  unfold f_law_c19
  simp only [gj1 hj hL, gj2 hj hL, gj3 hj hL, gj4 hj hL, gj5 hj hL, gj6 hj hL]
  exact q_case (I := fun m => Inv t u w v (B + 80) m) (i_differs h) (fun m' hm => hK _ _ _ _ _ _ hm)
theorem lc_20 (h : Inv t u w v B m) (hj : j + 6 < L) (hL : L ≤ 3584) (hK : ∀ t u w v x m, Inv t u w v (B + 80) m → K t u w v x m = some ()) : f_law_c20 L xs t u w v x K (nI j) m = some () := by
  unfold f_law_c20
  exact q_case (I := fun m => Inv t u w v (B + 80) m) (i_family h) (fun m' hm => hK _ _ _ _ _ _ hm)
theorem lc_21 (h : Inv t u w v B m) (hj : j + 6 < L) (hL : L ≤ 3584) (hK : ∀ t u w v x m, Inv t u w v (B + 80) m → K t u w v x m = some ()) : f_law_c21 L xs t u w v x K (nI j) m = some () := by
  unfold f_law_c21
  simp only [gj1 hj hL, gj2 hj hL, gj3 hj hL, gj4 hj hL, gj5 hj hL, gj6 hj hL]
  exact q_case (I := fun m => Inv t u w v (B + 80) m) (i_seek h) (fun m' hm => hK _ _ _ _ _ _ hm)
theorem lc_22 (h : Inv t u w v B m) (hj : j + 6 < L) (hL : L ≤ 3584) (hK : ∀ t u w v x m, Inv t u w v (B + 80) m → K t u w v x m = some ()) : f_law_c22 L xs t u w v x K (nI j) m = some () := by
  unfold f_law_c22
  simp only [gj1 hj hL, gj2 hj hL, gj3 hj hL, gj4 hj hL, gj5 hj hL, gj6 hj hL]
  exact q_case (I := fun m => Inv t u w v (B + 80) m) (i_cost h) (fun m' hm => hK _ _ _ _ _ _ hm)
theorem lc_23 (h : Inv t u w v B m) (hj : j + 6 < L) (hL : L ≤ 3584) (hK : ∀ t u w v x m, Inv t u w v (B + 80) m → K t u w v x m = some ()) : f_law_c23 L xs t u w v x K (nI j) m = some () := by
  unfold f_law_c23
  simp only [gj1 hj hL, gj2 hj hL, gj3 hj hL, gj4 hj hL, gj5 hj hL, gj6 hj hL]
  exact q_case (I := fun m => Inv t u w v (B + 80) m) (i_price h) (fun m' hm => hK _ _ _ _ _ _ hm)
theorem lc_24 (h : Inv t u w v B m) (hj : j + 6 < L) (hL : L ≤ 3584) (hK : ∀ t u w v x m, Inv t u w v (B + 80) m → K t u w v x m = some ()) : f_law_c24 L xs t u w v x K (nI j) m = some () := by
  unfold f_law_c24
  simp only [gj1 hj hL, gj2 hj hL, gj3 hj hL, gj4 hj hL, gj5 hj hL, gj6 hj hL]
  exact q_case (I := fun m => Inv t u w v (B + 80) m) (i_would h) (fun m' hm => hK _ _ _ _ _ _ hm)
theorem lc_25 (h : Inv t u w v B m) (hj : j + 6 < L) (hL : L ≤ 3584) (hK : ∀ t u w v x m, Inv t u w v (B + 80) m → K t u w v x m = some ()) : f_law_c25 L xs t u w v x K (nI j) m = some () := by
  unfold f_law_c25
  simp only [gj1 hj hL, gj2 hj hL, gj3 hj hL, gj4 hj hL, gj5 hj hL, gj6 hj hL]
  exact q_case (I := fun m => Inv t u w v (B + 80) m) (i_time h) (fun m' hm => hK _ _ _ _ _ _ hm)
theorem lc_26 (h : Inv t u w v B m) (hj : j + 6 < L) (hL : L ≤ 3584) (hK : ∀ t u w v x m, Inv t u w v (B + 80) m → K t u w v x m = some ()) : f_law_c26 L xs t u w v x K (nI j) m = some () := by
  unfold f_law_c26
  simp only [gj1 hj hL, gj2 hj hL, gj3 hj hL, gj4 hj hL, gj5 hj hL, gj6 hj hL]
  exact q_case (I := fun m => Inv t u w v (B + 80) m) (i_bears h) (fun m' hm => hK _ _ _ _ _ _ hm)
theorem lc_27 (h : Inv t u w v B m) (hj : j + 6 < L) (hL : L ≤ 3584) (hK : ∀ t u w v x m, Inv t u w v (B + 80) m → K t u w v x m = some ()) : f_law_c27 L xs t u w v x K (nI j) m = some () := by
  unfold f_law_c27
  exact q_case (I := fun m => Inv t u w v (B + 80) m) (i_risk h) (fun m' hm => hK _ _ _ _ _ _ hm)
theorem lc_28 (h : Inv t u w v B m) (hj : j + 6 < L) (hL : L ≤ 3584) (hK : ∀ t u w v x m, Inv t u w v (B + 80) m → K t u w v x m = some ()) : f_law_c28 L xs t u w v x K (nI j) m = some () := by
  unfold f_law_c28
  simp only [gj1 hj hL, gj2 hj hL, gj3 hj hL, gj4 hj hL, gj5 hj hL, gj6 hj hL]
  exact q_case (I := fun m => Inv t u w v (B + 80) m) (i_grow h) (fun m' hm => hK _ _ _ _ _ _ hm)
theorem lc_29 (h : Inv t u w v B m) (hj : j + 6 < L) (hL : L ≤ 3584) (hK : ∀ t u w v x m, Inv t u w v (B + 80) m → K t u w v x m = some ()) : f_law_c29 L xs t u w v x K (nI j) m = some () := by
  unfold f_law_c29
  simp only [gj1 hj hL, gj2 hj hL, gj3 hj hL, gj4 hj hL, gj5 hj hL, gj6 hj hL]
  obtain ⟨k, m1, r, m2, e1, e2, e3, e4, e5⟩ := i_lost (x1 := xs (ix (nI j + (1 : Int32)))) h
  have i0 : ix (0 : Int32) = 0 := rfl
  rw [e1, q_bd2, e2, q_bd2]
  unfold f_X11_thrown
  rw [q_bd2, e3, if_pos rfl]
  by_cases hk : k = 0
  · rw [if_pos hk, i0, e4 hk, lg_refl, if_pos rfl]
    exact hK _ _ _ _ _ _ e5
  · rw [if_neg hk]
    exact hK _ _ _ _ _ _ e5
theorem lc_30 (h : Inv t u w v B m) (hj : j + 6 < L) (hL : L ≤ 3584) (hK : ∀ t u w v x m, Inv t u w v (B + 80) m → K t u w v x m = some ()) : f_law_c30 L xs t u w v x K (nI j) m = some () := by
  unfold f_law_c30
  simp only [gj1 hj hL, gj2 hj hL, gj3 hj hL, gj4 hj hL, gj5 hj hL, gj6 hj hL]
  by_cases hx : xs (ix (nI j + (2 : Int32))) = 0
  · simp only [if_pos hx]
    exact q_case (I := fun m => Inv t u w v (B + 80) m) (i_see (y := 0) h (by omega)) (fun m' hm => hK _ _ _ _ _ _ hm)
  · simp only [if_neg hx]
    exact q_case (I := fun m => Inv t u w v (B + 80) m) (i_see (y := 1) h (by omega)) (fun m' hm => hK _ _ _ _ _ _ hm)
theorem lc_31 (h : Inv t u w v B m) (hj : j + 6 < L) (hL : L ≤ 3584) (hK : ∀ t u w v x m, Inv t u w v (B + 80) m → K t u w v x m = some ()) : f_law_c31 L xs t u w v x K (nI j) m = some () := by
  unfold f_law_c31
  exact q_case (I := fun m => Inv t u w v (B + 80) m) (i_who h) (fun m' hm => hK _ _ _ _ _ _ hm)
theorem lc_32 (h : Inv t u w v B m) (hj : j + 6 < L) (hL : L ≤ 3584) (hK : ∀ t u w v x m, Inv t u w v (B + 80) m → K t u w v x m = some ()) : f_law_c32 L xs t u w v x K (nI j) m = some () := by
  unfold f_law_c32
  exact q_case (I := fun m => Inv t u w v (B + 80) m) (i_ask h) (fun m' hm => hK _ _ _ _ _ _ hm)
theorem lc_33 (h : Inv t u w v B m) (hj : j + 6 < L) (hL : L ≤ 3584) (hB : B + 7920 ≤ 99999) (hK : ∀ t u w v x m, Inv t u w v (B + 80) m → K t u w v x m = some ()) : f_law_c33 L xs t u w v x K (nI j) m = some () := by
  unfold f_law_c33
  simp only [gj1 hj hL, gj2 hj hL, gj3 hj hL, gj4 hj hL, gj5 hj hL, gj6 hj hL]
  exact q_case (I := fun m => Inv t u w v (B + 80) m) (i_loads h hB) (fun m' hm => hK _ _ _ _ _ _ hm)
theorem lc_34 (h : Inv t u w v B m) (hj : j + 6 < L) (hL : L ≤ 3584) (hK : ∀ t u w v x m, Inv t u w v (B + 80) m → K t u w v x m = some ()) : f_law_c34 L xs t u w v x K (nI j) m = some () := by
  unfold f_law_c34
  simp only [gj1 hj hL, gj2 hj hL, gj3 hj hL, gj4 hj hL, gj5 hj hL, gj6 hj hL]
  by_cases hx : xs (ix (nI j + (2 : Int32))) = 0
  · simp only [if_pos hx]
    exact q_case (I := fun m => Inv t u w v (B + 80) m) (i_mark (y := 0) h (by omega)) (fun m' hm => hK _ _ _ _ _ _ hm)
  · simp only [if_neg hx]
    exact q_case (I := fun m => Inv t u w v (B + 80) m) (i_mark (y := 1) h (by omega)) (fun m' hm => hK _ _ _ _ _ _ hm)
theorem lc_35 (h : Inv t u w v B m) (hj : j + 6 < L) (hL : L ≤ 3584) (hK : ∀ t u w v x m, Inv t u w v (B + 80) m → K t u w v x m = some ()) : f_law_c35 L xs t u w v x K (nI j) m = some () := by
  unfold f_law_c35
  simp only [gj1 hj hL, gj2 hj hL, gj3 hj hL, gj4 hj hL, gj5 hj hL, gj6 hj hL]
  exact q_case (I := fun m => Inv t u w v (B + 80) m) (i_count h) (fun m' hm => hK _ _ _ _ _ _ hm)
theorem lc_step (h : Inv t u w v B m) (hj : j + 6 < L) (hL : L ≤ 3584) (hB : B + 7920 ≤ 99999) (hK : ∀ t u w v x m, Inv t u w v (B + 80) m → K t u w v x m = some ()) : f_step L xs t u w v x K (nI j) m = some () := by
  unfold f_step
  rw [q_gd (by omega) (by omega)]
  by_cases c0 : xs (ix (nI j)) &&& 63 = 0
  · rw [if_pos c0]
    exact lc_0 h hj hL hK
  rw [if_neg c0]
  by_cases c1 : xs (ix (nI j)) &&& 63 = 1
  · rw [if_pos c1]
    exact lc_1 h hj hL hK
  rw [if_neg c1]
  by_cases c2 : xs (ix (nI j)) &&& 63 = 2
  · rw [if_pos c2]
    exact lc_2 h hj hL hK
  rw [if_neg c2]
  by_cases c3 : xs (ix (nI j)) &&& 63 = 3
  · rw [if_pos c3]
    exact lc_3 h hj hL hK
  rw [if_neg c3]
  by_cases c4 : xs (ix (nI j)) &&& 63 = 4
  · rw [if_pos c4]
    exact lc_4 h hj hL hK
  rw [if_neg c4]
  by_cases c5 : xs (ix (nI j)) &&& 63 = 5
  · rw [if_pos c5]
    exact lc_5 h hj hL hK
  rw [if_neg c5]
  by_cases c6 : xs (ix (nI j)) &&& 63 = 6
  · rw [if_pos c6]
    exact lc_6 h hj hL hK
  rw [if_neg c6]
  by_cases c7 : xs (ix (nI j)) &&& 63 = 7
  · rw [if_pos c7]
    exact lc_7 h hj hL hK
  rw [if_neg c7]
  by_cases c8 : xs (ix (nI j)) &&& 63 = 8
  · rw [if_pos c8]
    exact lc_8 h hj hL hK
  rw [if_neg c8]
  by_cases c9 : xs (ix (nI j)) &&& 63 = 9
  · rw [if_pos c9]
    exact lc_9 h hj hL hK
  rw [if_neg c9]
  by_cases c10 : xs (ix (nI j)) &&& 63 = 10
  · rw [if_pos c10]
    exact lc_10 h hj hL hK
  rw [if_neg c10]
  by_cases c11 : xs (ix (nI j)) &&& 63 = 11
  · rw [if_pos c11]
    exact lc_11 h hj hL hK
  rw [if_neg c11]
  by_cases c12 : xs (ix (nI j)) &&& 63 = 12
  · rw [if_pos c12]
    exact lc_12 h hj hL hK
  rw [if_neg c12]
  by_cases c13 : xs (ix (nI j)) &&& 63 = 13
  · rw [if_pos c13]
    exact lc_13 h hj hL hK
  rw [if_neg c13]
  by_cases c14 : xs (ix (nI j)) &&& 63 = 14
  · rw [if_pos c14]
    exact lc_14 h hj hL hK
  rw [if_neg c14]
  by_cases c15 : xs (ix (nI j)) &&& 63 = 15
  · rw [if_pos c15]
    exact lc_15 h hj hL hK
  rw [if_neg c15]
  by_cases c16 : xs (ix (nI j)) &&& 63 = 16
  · rw [if_pos c16]
    exact lc_16 h hj hL hK
  rw [if_neg c16]
  by_cases c17 : xs (ix (nI j)) &&& 63 = 17
  · rw [if_pos c17]
    exact lc_17 h hj hL hK
  rw [if_neg c17]
  by_cases c18 : xs (ix (nI j)) &&& 63 = 18
  · rw [if_pos c18]
    exact lc_18 h hj hL hK
  rw [if_neg c18]
  by_cases c19 : xs (ix (nI j)) &&& 63 = 19
  · rw [if_pos c19]
    exact lc_19 h hj hL hK
  rw [if_neg c19]
  by_cases c20 : xs (ix (nI j)) &&& 63 = 20
  · rw [if_pos c20]
    exact lc_20 h hj hL hK
  rw [if_neg c20]
  by_cases c21 : xs (ix (nI j)) &&& 63 = 21
  · rw [if_pos c21]
    exact lc_21 h hj hL hK
  rw [if_neg c21]
  by_cases c22 : xs (ix (nI j)) &&& 63 = 22
  · rw [if_pos c22]
    exact lc_22 h hj hL hK
  rw [if_neg c22]
  by_cases c23 : xs (ix (nI j)) &&& 63 = 23
  · rw [if_pos c23]
    exact lc_23 h hj hL hK
  rw [if_neg c23]
  by_cases c24 : xs (ix (nI j)) &&& 63 = 24
  · rw [if_pos c24]
    exact lc_24 h hj hL hK
  rw [if_neg c24]
  by_cases c25 : xs (ix (nI j)) &&& 63 = 25
  · rw [if_pos c25]
    exact lc_25 h hj hL hK
  rw [if_neg c25]
  by_cases c26 : xs (ix (nI j)) &&& 63 = 26
  · rw [if_pos c26]
    exact lc_26 h hj hL hK
  rw [if_neg c26]
  by_cases c27 : xs (ix (nI j)) &&& 63 = 27
  · rw [if_pos c27]
    exact lc_27 h hj hL hK
  rw [if_neg c27]
  by_cases c28 : xs (ix (nI j)) &&& 63 = 28
  · rw [if_pos c28]
    exact lc_28 h hj hL hK
  rw [if_neg c28]
  by_cases c29 : xs (ix (nI j)) &&& 63 = 29
  · rw [if_pos c29]
    exact lc_29 h hj hL hK
  rw [if_neg c29]
  by_cases c30 : xs (ix (nI j)) &&& 63 = 30
  · rw [if_pos c30]
    exact lc_30 h hj hL hK
  rw [if_neg c30]
  by_cases c31 : xs (ix (nI j)) &&& 63 = 31
  · rw [if_pos c31]
    exact lc_31 h hj hL hK
  rw [if_neg c31]
  by_cases c32 : xs (ix (nI j)) &&& 63 = 32
  · rw [if_pos c32]
    exact lc_32 h hj hL hK
  rw [if_neg c32]
  by_cases c33 : xs (ix (nI j)) &&& 63 = 33
  · rw [if_pos c33]
    exact lc_33 h hj hL hB hK
  rw [if_neg c33]
  by_cases c34 : xs (ix (nI j)) &&& 63 = 34
  · rw [if_pos c34]
    exact lc_34 h hj hL hK
  rw [if_neg c34]
  by_cases c35 : xs (ix (nI j)) &&& 63 = 35
  · rw [if_pos c35]
    exact lc_35 h hj hL hK
  rw [if_neg c35]
  exact hK _ _ _ _ _ _ (Inv_mono h (by omega))
theorem lw_all (hL : L ≤ 3584) : ∀ (k j B t u w v : Nat) (x : Option Nat) (m : Mm), j ≤ L → L < j + 7 * k → B + 80 * k + 7920 ≤ 99999 → Inv t u w v B m → f_law L xs k t u w v x (nI j) m = some ()
  | 0, j, B, t, u, w, v, x, m, h1, h2, _, _ => by omega
  | k + 1, j, B, t, u, w, v, x, m, h1, h2, h3, h => by
    rw [f_law]
    by_cases h7 : j + 7 ≤ L
    · have e7 : Int32.ofNat L - 7 = nI (L - 7) := by
        have := pk_sub (a := L) (b := 7) (by omega)
        exact this
      rw [e7, if_neg (fun e => absurd ((q_ltp (by omega) (by omega)).mp e) (by omega))]
      refine lc_step h (by omega) hL (by omega) (fun t u w v x m hI => ?_)
      have ej : nI j + (7 : Int32) = nI (j + 7) := by rw [q_l7, nI_add]
      rw [ej]
      exact lw_all hL k (j + 7) (B + 80) t u w v x m h7 (by omega) (by omega) hI
    · rw [if_pos]
      by_cases hl : 7 ≤ L
      · have e7 : Int32.ofNat L - 7 = nI (L - 7) := pk_sub (a := L) (b := 7) hl
        rw [e7]
        exact (q_ltp (by omega) (by omega)).mpr (by omega)
      · have hs : L = 0 ∨ L = 1 ∨ L = 2 ∨ L = 3 ∨ L = 4 ∨ L = 5 ∨ L = 6 := by omega
        have hj : nI 0 ≤ nI j := by
          rw [Int32.le_iff_toInt_le, nI_toInt (by decide), nI_toInt (by show _ < 2147483648; omega)]
          omega
        have hn : Int32.ofNat L - 7 < nI 0 := by
          rcases hs with rfl | rfl | rfl | rfl | rfl | rfl | rfl <;> decide
        rw [Int32.lt_iff_toInt_lt] at hn ⊢
        rw [Int32.le_iff_toInt_le] at hj
        omega
end LawC1
