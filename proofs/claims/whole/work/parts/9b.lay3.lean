/-! MATH HALF: the layout by its own equations; pictures of rows of cells -/
def WLy (Λ : Lv) : Prop := yX Λ = ct (dat Λ) (5 * yS Λ) ∧ (∀ x, yT Λ x = if dat Λ x then ct (dat Λ) x + 1 else 0) ∧ (∀ i, yU Λ i = fs (fun x => dat Λ x ∧ ct (dat Λ) x = i) (5 * yS Λ)) ∧ (∀ x, yH Λ x = ct (fun k => onK Λ k (yK Λ x)) (x / 5)) ∧ (∀ k, yM Λ k = lb (fun d => onK Λ k d) 13) ∧ (∀ k, k < yS Λ → yQ Λ k = chN Λ (yQ Λ) k (yD Λ)) ∧ ∀ k, k < yS Λ → yR Λ k = if yQ Λ k = 0 then 0 else ct (fun j => onK Λ j (yQ Λ k - 1)) (yS Λ) + ct (fun j => yQ Λ j = yQ Λ k) k + 1
def isT (T : Lv) (P : Pv) (nd : Nat) (Λ : Lv) : Prop := yD Λ = nd ∧ yS Λ = cS T nd (tB T) ∧ ∀ b p, b < tB T → p < sN T nd b → yZ Λ (cS T nd b + p) = tZ T b ∧ yB Λ (cS T nd b + p) = b ∧ (∀ u, u < 5 → yK Λ (5 * (cS T nd b + p) + u) = dIn T nd b p u) ∧ yP Λ (cS T nd b + p) = P (cS T nd b + p) (tZ T b) (dIn T nd b p 0) b
/-- cells from A to A + 13 laid anew -/
abbrev Bv : Type := Nat → Nat → Int32
def pB (A : Nat) (β : Bv) (m : Mm) : Mm := (fun b i => if A ≤ b ∧ b ≤ A + 13 then β (b - A) i else m.1 b i, m.2)
def up2 (β : Bv) (c j : Nat) (v : Int32) : Bv := fun c2 j2 => if c2 = c ∧ j2 = j then v else β c2 j2
section Lay3
variable {T Λ : Lv} {P : Pv} {nd a b k p u x n d i j A c c2 : Nat} {q q2 : Nat → Nat} {β γ : Bv} {m m2 : Mm} {v : Int32} {K' : Mm → Option Mm}
theorem ch_congr (h : ∀ j, j < k → q j = q2 j) : ∀ d, chN Λ q k d = chN Λ q2 k d
  | 0 => rfl
  | d + 1 => by
    have ih := ch_congr h d
    unfold chN
    rw [ih]
    have e : ∀ c, ct (fun j => q j = c) k = ct (fun j => q2 j = c) k := fun c => ct_congr (fun i hi => by rw [h i hi])
    rw [e, e]
theorem ch_y : ∀ d, chN (mkY Λ) q k d = chN Λ q k d
  | 0 => rfl
  | d + 1 => by
    have ih := ch_y d
    unfold chN
    rw [ih]
    by_cases h : onK Λ k d
    · rw [if_pos h, if_pos (y_on.mpr h)]
    · rw [if_neg h, if_neg (fun h2 => h (y_on.mp h2))]
theorem y_dat : dat (mkY Λ) x ↔ dat Λ x := by unfold dat; rw [y_vx, y_P]
theorem y_ct (n : Nat) : ct (dat (mkY Λ)) n = ct (dat Λ) n := ct_congr (fun i _ => y_dat)
theorem WL_y : WLy (mkY Λ) := by
  have e5 : 5 * yS (mkY Λ) = 5 * yS Λ := by rw [y_S]
  refine ⟨?_, fun x => ?_, fun i => ?_, fun x => ?_, fun k => ?_, fun k hk => ?_, fun k hk => ?_⟩
  · rw [y_X]
    exact (y_ct (5 * yS Λ)).symm.trans (congrArg (ct (dat (mkY Λ))) e5.symm)
  · rw [y_T, y_ct]
    by_cases h : dat Λ x
    · rw [if_pos h, if_pos (y_dat.mpr h)]
    · rw [if_neg h, if_neg (fun h2 => h (y_dat.mp h2))]
  · rw [y_U]
    have e6 : fs (fun x => dat Λ x ∧ ct (dat Λ) x = i) (5 * yS Λ) = fs (fun x => dat (mkY Λ) x ∧ ct (dat (mkY Λ)) x = i) (5 * yS Λ) := fs_congr (fun x _ => by rw [y_dat, y_ct])
    exact e6.trans (congrArg (fs _) e5.symm)
  · rw [y_H, y_K]
    exact ct_congr (fun k _ => y_on.symm)
  · rw [y_M]
    have : (fun d => onK Λ k d) = fun d => onK (mkY Λ) k d := funext (fun d => propext y_on.symm)
    congr
  · rw [y_S] at hk
    rw [y_Q, sp_is hk, ch_y, y_D]
    exact ch_congr (fun j hj => by rw [y_Q, sp_low hj, sp_low (n := yS Λ) (by omega)]) _
  · rw [y_S] at hk
    rw [y_R, y_Q, y_S]
    have e1 : ct (fun j => onK (mkY Λ) j (spS Λ (yS Λ) k - 1)) (yS Λ) = ct (fun j => onK Λ j (spS Λ (yS Λ) k - 1)) (yS Λ) := ct_congr (fun i _ => y_on)
    have e2 : ct (fun j => yQ (mkY Λ) j = spS Λ (yS Λ) k) k = ct (fun j => spS Λ (yS Λ) j = spS Λ (yS Λ) k) k := ct_congr (fun i _ => by rw [y_Q])
    rw [e1, e2]
theorem is_T : isT T P nd (mkL2 T P nd) := by
  unfold mkL2
  refine ⟨by rw [y_D, mk0_D], by rw [y_S, mk0_S], fun b p hb hp => ⟨?_, ?_, fun u hu => ?_, ?_⟩⟩
  · rw [y_Z, mk0_Z hb hp]
  · rw [y_B, mk0_B hb hp]
  · rw [y_K, mk0_K hb hp hu]
  · rw [y_P, mk0_P hb hp]
theorem pB_g (hc : c ≤ 13) : gI (pB A β m) (A + c) i = β c i := by
  simp only [gI, pB]
  rw [if_pos (by omega), Nat.add_sub_cancel_left]
theorem pB_g0 : gI (pB A β m) A i = β 0 i := by
  have := pB_g (A := A) (β := β) (m := m) (c := 0) (i := i) (by omega)
  exact this
theorem pB_o (h : b < A ∨ A + 13 < b) : gI (pB A β m) b i = gI m b i := by
  simp only [gI, pB]
  rw [if_neg (by omega)]
theorem pB_s (hc : c ≤ 13) : sI (pB A β m) (A + c) i v = pB A (up2 β c i v) m := by
  refine mm_ext (fun b j => ?_) rfl
  simp only [sI, pB, up2]
  by_cases h : b = A + c ∧ j = i
  · obtain ⟨rfl, rfl⟩ := h
    rw [if_pos ⟨rfl, rfl⟩, if_pos (by omega), if_pos ⟨by omega, rfl⟩]
  · rw [if_neg h]
    by_cases h2 : A ≤ b ∧ b ≤ A + 13
    · rw [if_pos h2, if_pos h2, if_neg (fun h3 => h ⟨by omega, h3.2⟩)]
    · rw [if_neg h2, if_neg h2]
theorem pB_s0 : sI (pB A β m) A i v = pB A (up2 β 0 i v) m := pB_s (c := 0) (by omega)
theorem pB_self : pB A (fun c i => m.1 (A + c) i) m = m := by
  refine mm_ext (fun b j => ?_) rfl
  simp only [pB]
  by_cases h2 : A ≤ b ∧ b ≤ A + 13
  · rw [if_pos h2, show A + (b - A) = b from by omega]
  · rw [if_neg h2]
theorem pB_pB : pB A β (pB A γ m) = pB A β m := by
  refine mm_ext (fun b j => ?_) rfl
  simp only [pB]
  by_cases h2 : A ≤ b ∧ b ≤ A + 13
  · rw [if_pos h2, if_pos h2]
  · rw [if_neg h2, if_neg h2, if_neg h2]
theorem up_ne (h : ¬ (c2 = c ∧ j = i)) : up2 β c i v c2 j = β c2 j := if_neg h
theorem up_eq : up2 β c i v c i = v := if_pos ⟨rfl, rfl⟩
/-- the data numbered so far -/
def NDi (Λ : Lv) (y : Nat) (β : Bv) : Prop := β 0 2 = nI (ct (dat Λ) y) ∧ (∀ x, vx Λ x → x < y → β 9 x = oI (yT Λ x)) ∧ ∀ i, i < ct (dat Λ) y → β 10 i = nI (yU Λ i)
theorem ND_par (hy : WLy Λ) (h : NDi Λ x β) (hx : vx Λ x) (hp : x % 5 = yP Λ (x / 5)) : NDi Λ (x + 1) (up2 β 9 x mo) := by
  have hd : ¬ dat Λ x := fun h => h.2 hp
  have e : ct (dat Λ) (x + 1) = ct (dat Λ) x := by
    show ct (dat Λ) x + (if dat Λ x then 1 else 0) = _
    rw [if_neg hd, Nat.add_zero]
  refine ⟨?_, fun z hz hz2 => ?_, fun i hi => ?_⟩
  · rw [e, up_ne (by omega)]; exact h.1
  · by_cases hzx : z = x
    · subst hzx
      rw [up_eq, hy.2.1, if_neg hd]; rfl
    · rw [up_ne (by omega)]
      exact h.2.1 z hz (by omega)
  · rw [e] at hi
    rw [up_ne (by omega)]
    exact h.2.2 i hi
theorem ND_dat (h0 : WL1 Λ) (hy : WLy Λ) (h : NDi Λ x β) (hx : vx Λ x) (hp : ¬ x % 5 = yP Λ (x / 5)) : NDi Λ (x + 1) (up2 (up2 (up2 (up2 β 9 x mo) 9 x (nI (ct (dat Λ) x))) 10 (ct (dat Λ) x) (nI x)) 0 2 (nI (ct (dat Λ) x + 1))) := by
  have hd : dat Λ x := ⟨hx, hp⟩
  have e : ct (dat Λ) (x + 1) = ct (dat Λ) x + 1 := by
    show ct (dat Λ) x + (if dat Λ x then 1 else 0) = _
    rw [if_pos hd]
  refine ⟨?_, fun z hz hz2 => ?_, fun i hi => ?_⟩
  · rw [e, up_eq]
  · rw [up_ne (by omega), up_ne (by omega)]
    by_cases hzx : z = x
    · subst hzx
      rw [up_eq, hy.2.1, if_pos hd]; rfl
    · rw [up_ne (by omega), up_ne (by omega)]
      exact h.2.1 z hz (by omega)
  · rw [e] at hi
    rw [up_ne (by omega)]
    by_cases hic : i = ct (dat Λ) x
    · subst hic
      rw [up_eq, hy.2.2.1]
      have := hx.1
      rw [nth_fs (p := dat Λ) (n := 5 * yS Λ) (x := x) (by omega) hd rfl]
    · rw [up_ne (by omega), up_ne (by omega), up_ne (by omega)]
      exact h.2.2 i (by omega)
end Lay3
