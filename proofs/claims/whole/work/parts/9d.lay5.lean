/-! MATH HALF: a stripe laid by the class, all of it -/
section Lay5
variable {T Λ : Lv} {P : Pv} {nd a b k p u x n d i j A c c2 t : Nat} {q q2 : Nat → Nat} {β γ : Bv} {m m2 : Mm} {v : Int32}
theorem cS_lt (hb : b < tB T) (hp : p < sN T nd b) : cS T nd b + p < cS T nd (tB T) := by
  have h1 := cS_mono (T := T) (nd := nd) (n := tB T) (b := b + 1) (by omega)
  have h2 : cS T nd (b + 1) = cS T nd b + sN T nd b := rfl
  omega
theorem lwS_r : lwS t m m := ⟨rfl, fun _ _ _ _ => rfl⟩
theorem lwS_t {m3 : Mm} (h1 : lwS t m m2) (h2 : lwS t m2 m3) : lwS t m m3 := ⟨h2.1.trans h1.1, fun b i h3 h4 => (h2.2 b i h3 h4).trans (h1.2 b i h3 h4)⟩
theorem ToC_lw (h : lwS t m m2) (hC : ToC t T m) : ToC t T m2 := by
  have hg : ∀ b i, b ≤ t + 3 → gI m2 b i = gI m b i := fun b i hb => h.2 b i (by omega) (by omega)
  unfold ToC
  simp (disch := omega) only [hg]
  exact hC
theorem LawC_lw (h : lwS t m m2) (hL : LawC t P m) : LawC t P m2 := fun m' e1 e2 => hL m' (e1.trans (h.2 _ _ (by omega) (by omega))) (fun i => (e2 i).trans (h.2 _ _ (by omega) (by omega)))
/-- the stripe's loop, where it is at u -/
def L54i (Λ : Lv) (n : Nat) (β : Bv) (u : Nat) (γ : Bv) : Prop := (∀ v, v < u → γ 7 (5 * n + v) = nI (yK Λ (5 * n + v)) ∧ γ 8 (5 * n + v) = nI (ct (fun k => onK Λ k (yK Λ (5 * n + v))) n)) ∧ (∀ d, d < 13 → γ 11 d = nI (ct (fun k => onK Λ k d) n + ct (fun v => yK Λ (5 * n + v) = d) u)) ∧ (∃ w, w < 8192 ∧ γ 6 n = nI w ∧ ∀ d, w.testBit d = true ↔ ∃ v, v < u ∧ yK Λ (5 * n + v) = d) ∧ ∀ c i, ¬ (c = 7 ∧ 5 * n ≤ i) → ¬ (c = 8 ∧ 5 * n ≤ i) → c ≠ 11 → ¬ (c = 6 ∧ i = n) → γ c i = β c i
theorem L54_step (h1 : WL1 Λ) (h2 : WL2 Λ) (hn : n < yS Λ) (hu : u < yZ Λ n) {w : Nat} (hw : w < 8192) (hb : ∀ d, w.testBit d = true ↔ ∃ v, v < u ∧ yK Λ (5 * n + v) = d) (h : L54i Λ n β u γ) : yK Λ (5 * n + u) < 13 ∧ γ 11 (yK Λ (5 * n + u)) = nI (ct (fun k => onK Λ k (yK Λ (5 * n + u))) n) ∧ L54i Λ n β (u + 1) (up2 (up2 (up2 (up2 γ 7 (5 * n + u) (nI (yK Λ (5 * n + u)))) 8 (5 * n + u) (nI (ct (fun k => onK Λ k (yK Λ (5 * n + u))) n))) 11 (yK Λ (5 * n + u)) (nI (ct (fun k => onK Λ k (yK Λ (5 * n + u))) n + 1))) 6 n (nI (w ||| 2 ^ (yK Λ (5 * n + u))))) := by
  have hd := h1.2.2.2.2 _ (vx_mk h1 hn hu)
  have h13 := h1.1
  have hc0 : ct (fun v => yK Λ (5 * n + v) = yK Λ (5 * n + u)) u = 0 := ct_none (fun v hv e => by
    have := h2.1 n v u hn (by omega) hu e
    omega)
  obtain ⟨g1, g2, g3, g4⟩ := h
  have e11 := g2 (yK Λ (5 * n + u)) (by omega)
  rw [hc0, Nat.add_zero] at e11
  refine ⟨by omega, e11, fun v hv => ?_, fun d hd2 => ?_, ⟨w ||| 2 ^ (yK Λ (5 * n + u)), ?_, up_eq, fun d => ?_⟩, fun c i k1 k2 k3 k4 => ?_⟩
  · by_cases e : v = u
    · subst e
      rw [up_ne (by omega), up_ne (by omega), up_ne (by omega), up_eq, up_ne (by omega), up_ne (by omega), up_eq]
      exact ⟨rfl, rfl⟩
    · rw [up_ne (by omega), up_ne (by omega), up_ne (by omega), up_ne (by omega), up_ne (by omega), up_ne (by omega), up_ne (by omega), up_ne (by omega)]
      exact g1 v (by omega)
  · rw [up_ne (by omega)]
    by_cases e : d = yK Λ (5 * n + u)
    · subst e
      rw [up_eq]
      have : ct (fun v => yK Λ (5 * n + v) = yK Λ (5 * n + u)) (u + 1) = 1 := by
        show ct (fun v => yK Λ (5 * n + v) = yK Λ (5 * n + u)) u + (if yK Λ (5 * n + u) = yK Λ (5 * n + u) then 1 else 0) = 1
        rw [hc0, if_pos rfl]
      rw [this]
    · rw [up_ne (by omega), up_ne (by omega), up_ne (by omega), g2 d hd2]
      have : ct (fun v => yK Λ (5 * n + v) = d) (u + 1) = ct (fun v => yK Λ (5 * n + v) = d) u := by
        show ct (fun v => yK Λ (5 * n + v) = d) u + (if yK Λ (5 * n + u) = d then 1 else 0) = _
        rw [if_neg (fun h => e h.symm), Nat.add_zero]
      rw [this]
  · have e13 : 2 ^ (yK Λ (5 * n + u)) < 2 ^ 13 := Nat.pow_lt_pow_right (by decide) (by omega)
    exact Nat.or_lt_two_pow (n := 13) hw e13
  · rw [Nat.testBit_or, Nat.testBit_two_pow]
    by_cases e : yK Λ (5 * n + u) = d
    · simp only [e, decide_true, Bool.or_true, true_iff]
      exact ⟨u, by omega, e⟩
    · simp only [e, decide_false, Bool.or_false]
      rw [hb d]
      constructor
      · rintro ⟨v, h3, h4⟩; exact ⟨v, by omega, h4⟩
      · rintro ⟨v, h3, h4⟩
        refine ⟨v, ?_, h4⟩
        rcases Nat.lt_or_ge v u with h5 | h5
        · exact h5
        · have : v = u := by omega
          subst this; exact absurd h4 e
  · rw [up_ne (by omega), up_ne (by omega), up_ne (by omega), up_ne (by omega)]
    exact g4 c i k1 k2 k3 k4
theorem on_ct (h1 : WL1 Λ) (h2 : WL2 Λ) (hn : n < yS Λ) : ct (fun v => yK Λ (5 * n + v) = d) (yZ Λ n) = if onK Λ n d then 1 else 0 := by
  refine ct_bool ?_ on_ex
  rcases Nat.lt_or_ge 1 (ct (fun v => yK Λ (5 * n + v) = d) (yZ Λ n)) with h | h
  · exfalso
    obtain ⟨x, a1, a2, a3⟩ := ct_nth (p := fun v => yK Λ (5 * n + v) = d) (i := 0) (n := yZ Λ n) (by omega)
    obtain ⟨y, b1, b2, b3⟩ := ct_nth (p := fun v => yK Λ (5 * n + v) = d) (i := 1) (n := yZ Λ n) (by omega)
    have := h2.1 n x y hn a1 b1 (a2.trans b2.symm)
    subst this
    omega
  · exact h
/-- at the stripe's end -/
theorem BC_next (h1 : WL1 Λ) (h2 : WL2 Λ) (hy : WLy Λ) (hn : n < yS Λ) {β0 δ ε : Bv} (hB : BCn Λ n β) (e0 : β0 = up2 (up2 (up2 (up2 β 0 1 (nI (n + 1))) 3 n (nI (yB Λ n))) 1 n (nI (yZ Λ n))) 6 n (nI 0)) (h : L54i Λ n β0 (yZ Λ n) γ) (e1 : δ = up2 (up2 γ 2 n (nI (yP Λ n))) 12 (yK Λ (5 * n + yP Λ n)) (nI (ct (fun k => yK Λ (5 * k + yP Λ k) = yK Λ (5 * n + yP Λ n)) n + 1))) (h3 : NDi Λ (5 * (n + 1)) ε) (h4 : ∀ c i, c ≠ 9 → c ≠ 10 → ¬ (c = 0 ∧ i = 2) → ε c i = δ c i) : BCn Λ (n + 1) ε := by
  have h5 := h1.2.2.2.1 n hn
  obtain ⟨g1, g2, ⟨w, w1, w2, w3⟩, g4⟩ := h
  obtain ⟨b0, b1, b2, b3, b4, b5⟩ := hB
  have hM : w = yM Λ n := by
    rw [hy.2.2.2.2.1 n]
    refine Nat.eq_of_testBit_eq (fun d => ?_)
    have e : w.testBit d = true ↔ (lb (fun d => onK Λ n d) 13).testBit d = true := by
      rw [w3 d, lb_bit, on_ex]
      constructor
      · rintro ⟨v, h6, h7⟩
        have := h1.2.2.2.2 _ (vx_mk h1 hn h6)
        have := h1.1
        exact ⟨by omega, v, h6, h7⟩
      · rintro ⟨_, v, h6, h7⟩; exact ⟨v, h6, h7⟩
    rcases Bool.eq_false_or_eq_true (w.testBit d) with h6 | h6
    · rw [h6, (e.mp h6)]
    · rcases Bool.eq_false_or_eq_true ((lb (fun d => onK Λ n d) 13).testBit d) with h7 | h7
      · rw [h7, e.mpr h7]
      · rw [h6, h7]
  subst e1
  subst e0
  refine ⟨?_, ?_, h3, fun k hk => ?_, fun x hx hx2 => ?_, fun d hd => ?_⟩
  · rw [h4 0 0 (by omega) (by omega) (by omega), up_ne (by omega), up_ne (by omega), g4 0 0 (by omega) (by omega) (by omega) (by omega), up_ne (by omega), up_ne (by omega), up_ne (by omega), up_ne (by omega)]
    exact b0
  · rw [h4 0 1 (by omega) (by omega) (by omega), up_ne (by omega), up_ne (by omega), g4 0 1 (by omega) (by omega) (by omega) (by omega), up_ne (by omega), up_ne (by omega), up_ne (by omega), up_eq]
  · rw [h4 1 k (by omega) (by omega) (by omega), h4 2 k (by omega) (by omega) (by omega), h4 3 k (by omega) (by omega) (by omega), h4 6 k (by omega) (by omega) (by omega)]
    rw [up_ne (by omega), up_ne (by omega), g4 1 k (by omega) (by omega) (by omega) (by omega), up_ne (c2 := 1) (c := 6) (by omega)]
    rw [up_ne (c2 := 2) (c := 12) (by omega), up_ne (c2 := 3) (c := 12) (by omega), up_ne (c2 := 3) (c := 2) (by omega), g4 3 k (by omega) (by omega) (by omega) (by omega), up_ne (c2 := 3) (c := 6) (by omega), up_ne (c2 := 3) (c := 1) (by omega), up_ne (c2 := 6) (c := 12) (by omega), up_ne (c2 := 6) (c := 2) (by omega)]
    by_cases e : k = n
    · subst e
      rw [up_eq, up_eq, up_eq, w2, hM]
      exact ⟨rfl, rfl, rfl, rfl⟩
    · rw [up_ne (by omega), up_ne (by omega), up_ne (by omega), up_ne (by omega), up_ne (by omega), up_ne (by omega), g4 2 k (by omega) (by omega) (by omega) (by omega), g4 6 k (by omega) (by omega) (by omega) (by omega)]
      rw [up_ne (c2 := 2) (by omega), up_ne (c2 := 2) (by omega), up_ne (c2 := 2) (by omega), up_ne (c2 := 2) (by omega), up_ne (c2 := 6) (by omega), up_ne (c2 := 6) (by omega), up_ne (c2 := 6) (by omega), up_ne (c2 := 6) (by omega)]
      exact b3 k (by omega)
  · rw [h4 7 x (by omega) (by omega) (by omega), h4 8 x (by omega) (by omega) (by omega), up_ne (c2 := 7) (by omega), up_ne (c2 := 7) (by omega), up_ne (c2 := 8) (by omega), up_ne (c2 := 8) (by omega)]
    by_cases e : x / 5 = n
    · have hx3 := hx.2
      rw [e] at hx3
      have q := g1 (x % 5) hx3
      rw [show 5 * n + x % 5 = x from by omega] at q
      rw [hy.2.2.2.1 x, e]
      exact q
    · rw [g4 7 x (by omega) (by omega) (by omega) (by omega), g4 8 x (by omega) (by omega) (by omega) (by omega)]
      rw [up_ne (c2 := 7) (by omega), up_ne (c2 := 7) (by omega), up_ne (c2 := 7) (by omega), up_ne (c2 := 7) (by omega), up_ne (c2 := 8) (by omega), up_ne (c2 := 8) (by omega), up_ne (c2 := 8) (by omega), up_ne (c2 := 8) (by omega)]
      exact b4 x hx (by omega)
  · rw [h4 11 d (by omega) (by omega) (by omega), h4 12 d (by omega) (by omega) (by omega), h4 13 d (by omega) (by omega) (by omega), up_ne (c2 := 11) (by omega), up_ne (c2 := 11) (by omega), g2 d hd, on_ct h1 h2 hn, up_ne (c2 := 13) (by omega), up_ne (c2 := 13) (by omega), g4 13 d (by omega) (by omega) (by omega) (by omega), up_ne (c2 := 13) (by omega), up_ne (c2 := 13) (by omega), up_ne (c2 := 13) (by omega), up_ne (c2 := 13) (by omega)]
    refine ⟨rfl, ?_, (b5 d hd).2.2⟩
    by_cases e : d = yK Λ (5 * n + yP Λ n)
    · subst e
      rw [up_eq]
      show _ = nI (ct _ n + (if yK Λ (5 * n + yP Λ n) = yK Λ (5 * n + yP Λ n) then 1 else 0))
      rw [if_pos rfl]
    · rw [up_ne (by omega), up_ne (by omega), g4 12 d (by omega) (by omega) (by omega) (by omega), up_ne (by omega), up_ne (by omega), up_ne (by omega), up_ne (by omega), (b5 d hd).2.1]
      show _ = nI (ct _ n + (if yK Λ (5 * n + yP Λ n) = d then 1 else 0))
      rw [if_neg (fun h => e h.symm), Nat.add_zero]
end Lay5
