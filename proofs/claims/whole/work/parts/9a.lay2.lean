/-! MATH HALF: the layout is well-formed -/
section Lay2
variable {T Λ : Lv} {P : Pv} {nd a b k p u x n d i j : Nat} {q : Nat → Nat}
theorem y_D : yD (mkY Λ) = yD Λ := by simp [yD, mkY]
theorem y_S : yS (mkY Λ) = yS Λ := by simp [yS, mkY]
theorem y_X : yX (mkY Λ) = ct (dat Λ) (5 * yS Λ) := by simp [yX, mkY]
theorem y_Z : yZ (mkY Λ) k = yZ Λ k := by simp [yZ, mkY]
theorem y_P : yP (mkY Λ) k = yP Λ k := by simp [yP, mkY]
theorem y_B : yB (mkY Λ) k = yB Λ k := by simp [yB, mkY]
theorem y_Q : yQ (mkY Λ) k = spS Λ (yS Λ) k := by simp [yQ, mkY]
theorem y_R : yR (mkY Λ) k = if spS Λ (yS Λ) k = 0 then 0 else ct (fun j => onK Λ j (spS Λ (yS Λ) k - 1)) (yS Λ) + ct (fun j => spS Λ (yS Λ) j = spS Λ (yS Λ) k) k + 1 := by simp [yR, mkY]
theorem y_M : yM (mkY Λ) k = lb (fun d => onK Λ k d) 13 := by simp [yM, mkY]
theorem y_K : yK (mkY Λ) x = yK Λ x := by simp [yK, mkY]
theorem y_H : yH (mkY Λ) x = ct (fun k => onK Λ k (yK Λ x)) (x / 5) := by simp [yH, mkY]
theorem y_T : yT (mkY Λ) x = if dat Λ x then ct (dat Λ) x + 1 else 0 := by simp [yT, mkY]
theorem y_U : yU (mkY Λ) i = fs (fun x => dat Λ x ∧ ct (dat Λ) x = i) (5 * yS Λ) := by simp [yU, mkY]
theorem y_A : yA (mkY Λ) d = ct (fun k => onK Λ k d) (yS Λ) := by simp [yA, mkY]
theorem y_C : yC (mkY Λ) d = ct (fun k => yK Λ (5 * k + yP Λ k) = d) (yS Λ) := by simp [yC, mkY]
theorem y_E : yE (mkY Λ) d = ct (fun k => spS Λ (yS Λ) k = d + 1) (yS Λ) := by simp [yE, mkY]
theorem y_vx : vx (mkY Λ) x ↔ vx Λ x := by unfold vx; rw [y_S, y_Z]
theorem y_uOn : uOn (mkY Λ) k d = uOn Λ k d := by simp only [uOn, y_K, y_Z]
theorem y_on : onK (mkY Λ) k d ↔ onK Λ k d := by unfold onK; rw [y_uOn, y_Z]
/-- a layout's stripes and disks -/
def WL0 (Λ : Lv) : Prop := yD Λ ≤ 13 ∧ yS Λ ≤ 40 ∧ (∀ k, k < yS Λ → 2 ≤ yZ Λ k ∧ yZ Λ k ≤ 5 ∧ yP Λ k < yZ Λ k) ∧ (∀ x, vx Λ x → yK Λ x < yD Λ) ∧ ∀ k u v, k < yS Λ → u < yZ Λ k → v < yZ Λ k → yK Λ (5 * k + u) = yK Λ (5 * k + v) → u = v
theorem on_ex : onK Λ k d ↔ ∃ u, u < yZ Λ k ∧ yK Λ (5 * k + u) = d := by
  constructor
  · intro h
    exact ⟨_, h, uOn_is h⟩
  · rintro ⟨u, h1, h2⟩
    rcases Nat.lt_or_ge (uOn Λ k d) (yZ Λ k) with h | h
    · exact h
    · have h3 : u < fs (fun u => yK Λ (5 * k + u) = d) (yZ Λ k) := Nat.lt_of_lt_of_le h1 h
      exact absurd h2 (fs_not _ _ u h3)
theorem ct_mono {p : Nat → Prop} [DecidablePred p] : ∀ {n b : Nat}, b ≤ n → ct p b ≤ ct p n
  | 0, b, h => by
    have : b = 0 := by omega
    subst this; exact Nat.le_refl _
  | n + 1, b, h => by
    by_cases e : b = n + 1
    · subst e; exact Nat.le_refl _
    · have h1 := ct_mono (p := p) (n := n) (b := b) (by omega)
      show ct p b ≤ ct p n + _
      omega
theorem ct_step {p : Nat → Prop} [DecidablePred p] (hp : p x) (h : x < n) : ct p x < ct p n := by
  have h1 := ct_mono (p := p) (n := n) (b := x + 1) (by omega)
  have h2 : ct p (x + 1) = ct p x + (if p x then 1 else 0) := rfl
  rw [if_pos hp] at h2
  omega
theorem ct_ij {p : Nat → Prop} [DecidablePred p] {y : Nat} (hx : p x) (hy : p y) (e : ct p x = ct p y) : x = y := by
  rcases Nat.lt_trichotomy x y with h | h | h
  · have := ct_step hx h; omega
  · exact h
  · have := ct_step hy h; omega
/-- the i-th of those that p holds of -/
theorem ct_nth {p : Nat → Prop} [DecidablePred p] : ∀ {n i : Nat}, i < ct p n → ∃ x, x < n ∧ p x ∧ ct p x = i
  | 0, i, h => absurd h (Nat.not_lt_zero _)
  | n + 1, i, h => by
    by_cases e : i < ct p n
    · obtain ⟨x, h1, h2, h3⟩ := ct_nth (p := p) e
      exact ⟨x, by omega, h2, h3⟩
    · have h1 : i < ct p n + (if p n then 1 else 0) := h
      by_cases hp : p n
      · rw [if_pos hp] at h1
        exact ⟨n, by omega, hp, by omega⟩
      · rw [if_neg hp] at h1
        omega
theorem nth_fs {p : Nat → Prop} [DecidablePred p] (hx : x < n) (hp : p x) (hi : ct p x = i) : fs (fun x => p x ∧ ct p x = i) n = x := by
  refine fs_eq hx ⟨hp, hi⟩ (fun j hj h => ?_)
  have := ct_ij h.1 hp (h.2.trans hi.symm)
  omega
theorem ct_miss {p : Nat → Prop} [DecidablePred p] {c : Nat} (hc : ¬ p c) : ∀ {n : Nat}, c < n → ct p n + 1 ≤ n
  | 0, h => absurd h (Nat.not_lt_zero _)
  | n + 1, h => by
    show ct p n + (if p n then 1 else 0) + 1 ≤ n + 1
    by_cases e : c = n
    · subst e
      rw [if_neg hc]
      have := ct_le p c
      omega
    · have := ct_miss hc (n := n) (by omega)
      split <;> omega
theorem dat_4 (h : WL0 Λ) : ∀ n, n ≤ yS Λ → ct (dat Λ) (5 * n) ≤ 4 * n
  | 0, _ => Nat.le_refl _
  | n + 1, hn => by
    have ih := dat_4 h n (by omega)
    have h5 := h.2.2.1 n (by omega)
    have e : 5 * (n + 1) = 5 * n + 5 := by omega
    rw [e, ct_add]
    have hp : ¬ (fun i => dat Λ (5 * n + i)) (yP Λ n) := fun hh => by
      have q1 : (5 * n + yP Λ n) / 5 = n := by omega
      have q2 : (5 * n + yP Λ n) % 5 = yP Λ n := by omega
      have := hh.2
      rw [q1, q2] at this
      exact this rfl
    have key := ct_miss (p := fun i => dat Λ (5 * n + i)) (n := 5) hp (by omega)
    omega
theorem vx_5 (h : WL0 Λ) (hx : vx Λ x) : x < 5 * yS Λ := by
  have := hx.1
  omega
theorem WL_1 (h : WL0 Λ) : WL1 (mkY Λ) := by
  refine ⟨by rw [y_D]; exact h.1, by rw [y_S]; exact h.2.1, ?_, fun k hk => ?_, fun x hx => ?_⟩
  · rw [y_X]
    have := dat_4 h (yS Λ) (Nat.le_refl _)
    have := h.2.1
    omega
  · rw [y_S] at hk
    have := h.2.2.1 k hk
    rw [y_Z, y_P, y_Q, y_D, sp_is hk]
    exact ⟨this.1, this.2.1, this.2.2, ch_le _⟩
  · rw [y_vx] at hx
    rw [y_K, y_D]
    exact h.2.2.2.1 x hx
theorem WL_2 (h : WL0 Λ) : WL2 (mkY Λ) := by
  refine ⟨fun k u v hk hu hv e => ?_, fun k u hk hu e => ?_⟩
  · rw [y_S] at hk
    rw [y_Z] at hu hv
    rw [y_K, y_K] at e
    exact h.2.2.2.2 k u v hk hu hv e
  · rw [y_S] at hk
    rw [y_Z] at hu
    rw [y_K, y_Q, sp_is hk] at e
    refine ch_off (Λ := Λ) (q := spS Λ k) (k := k) (yD Λ) (by omega) ?_
    rw [← e]
    exact on_ex.mpr ⟨u, hu, by omega⟩
theorem WL_3 (h : WL0 Λ) : WL3 (mkY Λ) := by
  refine ⟨fun i hi => ?_, fun x hx hp => ?_, fun x hx hp => ?_⟩
  · rw [y_X] at hi
    obtain ⟨x, h1, h2, h3⟩ := ct_nth hi
    have e := nth_fs h1 h2 h3
    rw [y_U, e, y_vx, y_P, y_T, if_pos h2, h3]
    exact ⟨h2.1, h2.2, rfl⟩
  · rw [y_vx] at hx
    rw [y_P] at hp
    have hd : dat Λ x := ⟨hx, hp⟩
    have hc := ct_step (p := dat Λ) hd (vx_5 h hx)
    rw [y_T, if_pos hd, y_X, y_U, Nat.add_sub_cancel]
    exact ⟨by omega, by omega, nth_fs (vx_5 h hx) hd rfl⟩
  · rw [y_vx] at hx
    rw [y_P] at hp
    rw [y_T, if_neg (fun h => h.2 hp)]
theorem WL_4 (h : WL0 Λ) : WL4 (mkY Λ) := by
  intro k hk
  rw [y_S] at hk
  rw [y_M]
  refine ⟨lb_lt (fun d => onK Λ k d) 13, fun d => ?_⟩
  rw [lb_bit]
  constructor
  · rintro ⟨h1, h2⟩
    obtain ⟨u, h3, h4⟩ := on_ex.mp h2
    exact ⟨u, by rw [y_Z]; exact h3, by rw [y_K]; exact h4⟩
  · rintro ⟨u, h3, h4⟩
    rw [y_Z] at h3
    rw [y_K] at h4
    have h5 := h.2.2.1 k hk
    have h6 := h.2.2.2.1 (5 * k + u) ⟨by omega, by
      have q1 : (5 * k + u) / 5 = k := by omega
      have q2 : (5 * k + u) % 5 = u := by omega
      rw [q1, q2]; exact h3⟩
    have h7 := h.1
    exact ⟨by omega, on_ex.mpr ⟨u, h3, h4⟩⟩
theorem WL_5 : WL5 (mkY Λ) := by
  intro d hd
  rw [y_A, y_C, y_E, y_S]
  refine ⟨ct_congr (fun i _ => y_on.symm), ct_congr (fun i _ => ?_), ct_congr (fun i _ => ?_)⟩
  · rw [y_K, y_P]
  · rw [y_Q]
theorem WL_6 (h : WL0 Λ) : WL6 (mkY Λ) := by
  have h40 := h.2.1
  refine ⟨fun k hk => ?_, fun x hx => ?_⟩
  · rw [y_S] at hk
    rw [y_Q, y_R]
    have a1 := ct_le (fun j => onK Λ j (spS Λ (yS Λ) k - 1)) (yS Λ)
    have a2 := ct_le (fun j => spS Λ (yS Λ) j = spS Λ (yS Λ) k) k
    split
    · omega
    · omega
  · rw [y_vx] at hx
    rw [y_H]
    have a1 := ct_le (fun k => onK Λ k (yK Λ x)) (x / 5)
    have := hx.1
    omega
theorem mk0_S : yS (mk0 T P nd) = cS T nd (tB T) := by simp [yS, mk0]
theorem mk0_D : yD (mk0 T P nd) = nd := by simp [yD, mk0]
theorem mk0_Z (hb : b < tB T) (hp : p < sN T nd b) : yZ (mk0 T P nd) (cS T nd b + p) = tZ T b := by
  simp [yZ, mk0, bk_is hb hp]
theorem mk0_B (hb : b < tB T) (hp : p < sN T nd b) : yB (mk0 T P nd) (cS T nd b + p) = b := by
  simp [yB, mk0, bk_is hb hp]
theorem mk0_K (hb : b < tB T) (hp : p < sN T nd b) (hu : u < 5) : yK (mk0 T P nd) (5 * (cS T nd b + p) + u) = dIn T nd b p u := by
  have q1 : (5 * (cS T nd b + p) + u) / 5 = cS T nd b + p := by omega
  have q2 : (5 * (cS T nd b + p) + u) % 5 = u := by omega
  simp [yK, mk0, q1, q2, bk_is hb hp]
theorem mk0_P (hb : b < tB T) (hp : p < sN T nd b) : yP (mk0 T P nd) (cS T nd b + p) = P (cS T nd b + p) (tZ T b) (dIn T nd b p 0) b := by
  simp [yP, mk0, bk_is hb hp]
theorem WL_0 (h : okT T P nd) : WL0 (mk0 T P nd) := by
  refine ⟨by rw [mk0_D]; exact h.2.1, by rw [mk0_S]; exact h.2.2.2.1, fun k hk => ?_, fun x hx => ?_, fun k u v hk hu hv e => ?_⟩
  · rw [mk0_S] at hk
    obtain ⟨b, p, h1, h2, rfl⟩ := cS_in hk
    have h3 := (h.1.2.2.2.2.2.2.1 b h1).2
    rw [mk0_Z h1 h2, mk0_P h1 h2]
    exact ⟨h3.1, h3.2, h.2.2.2.2 _ _ _ _ h3.1 h3.2⟩
  · have hk := hx.1
    have hu := hx.2
    rw [mk0_S] at hk
    obtain ⟨b, p, h1, h2, e⟩ := cS_in hk
    rw [e, mk0_Z h1 h2] at hu
    have h3 := (h.1.2.2.2.2.2.2.1 b h1).2
    have e2 : x = 5 * (cS T nd b + p) + x % 5 := by omega
    rw [e2, mk0_K h1 h2 (by omega), mk0_D]
    exact dIn_lt h h1 h2 hu
  · rw [mk0_S] at hk
    obtain ⟨b, p, h1, h2, rfl⟩ := cS_in hk
    rw [mk0_Z h1 h2] at hu hv
    have h3 := (h.1.2.2.2.2.2.2.1 b h1).2
    rw [mk0_K h1 h2 (by omega), mk0_K h1 h2 (by omega)] at e
    exact dIn_inj h h1 h2 hu hv e
end Lay2
