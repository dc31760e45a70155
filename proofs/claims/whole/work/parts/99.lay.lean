/-! MATH HALF: the layout that a told array asks for -/
def sN (T : Lv) (nd b : Nat) : Nat := if tK T b = 0 then 1 else if tK T b = 1 then nd else 2
def cS (T : Lv) (nd : Nat) : Nat → Nat
  | 0 => 0
  | b + 1 => cS T nd b + sN T nd b
def bkN (T : Lv) (nd k : Nat) : Nat := ct (fun b => cS T nd (b + 1) ≤ k) (tB T)
def dIn (T : Lv) (nd b p u : Nat) : Nat := if tK T b = 1 then (tM T (5 * b + u) + p) % nd else if tK T b = 2 ∧ p = 1 then nd - 1 - tM T (5 * b + u) else tM T (5 * b + u)
abbrev Pv : Type := Nat → Nat → Nat → Nat → Nat
def mk0 (T : Lv) (P : Pv) (nd : Nat) : Lv := fun r i =>
  if r = 0 then (if i = 0 then nd else if i = 1 then cS T nd (tB T) else 0)
  else if r = 1 then tZ T (bkN T nd i)
  else if r = 2 then P i (tZ T (bkN T nd i)) (dIn T nd (bkN T nd i) (i - cS T nd (bkN T nd i)) 0) (bkN T nd i)
  else if r = 3 then bkN T nd i
  else if r = 7 then dIn T nd (bkN T nd (i / 5)) (i / 5 - cS T nd (bkN T nd (i / 5))) (i % 5)
  else 0
abbrev dat (Λ : Lv) (x : Nat) : Prop := vx Λ x ∧ x % 5 ≠ yP Λ (x / 5)
/-- the spare chosen among the first disks, and 1 -/
def chN (Λ : Lv) (q : Nat → Nat) (k : Nat) : Nat → Nat
  | 0 => 0
  | d + 1 => if onK Λ k d then chN Λ q k d else if chN Λ q k d = 0 then d + 1 else if ct (fun j => q j = d + 1) k < ct (fun j => q j = chN Λ q k d) k then d + 1 else chN Λ q k d
def spS (Λ : Lv) : Nat → Nat → Nat
  | 0 => fun _ => 0
  | k + 1 => fun j => if j = k then chN Λ (spS Λ k) k (yD Λ) else spS Λ k j
def mkY (Λ : Lv) : Lv := fun r i =>
  if r = 0 ∧ i = 2 then ct (dat Λ) (5 * yS Λ)
  else if r = 4 then spS Λ (yS Λ) i
  else if r = 5 then (if spS Λ (yS Λ) i = 0 then 0 else ct (fun k => onK Λ k (spS Λ (yS Λ) i - 1)) (yS Λ) + ct (fun j => spS Λ (yS Λ) j = spS Λ (yS Λ) i) i + 1)
  else if r = 6 then lb (fun d => onK Λ i d) 13
  else if r = 8 then ct (fun k => onK Λ k (yK Λ i)) (i / 5)
  else if r = 9 then (if dat Λ i then ct (dat Λ) i + 1 else 0)
  else if r = 10 then fs (fun x => dat Λ x ∧ ct (dat Λ) x = i) (5 * yS Λ)
  else if r = 11 then ct (fun k => onK Λ k i) (yS Λ)
  else if r = 12 then ct (fun k => yK Λ (5 * k + yP Λ k) = i) (yS Λ)
  else if r = 13 then ct (fun k => spS Λ (yS Λ) k = i + 1) (yS Λ)
  else Λ r i
/-- the layout -/
def mkL2 (T : Lv) (P : Pv) (nd : Nat) : Lv := mkY (mk0 T P nd)
/-- what a told array must be that its layout may be built -/
def okT (T : Lv) (P : Pv) (nd : Nat) : Prop := WTo T ∧ nd ≤ 13 ∧ tD T ≤ nd ∧ cS T nd (tB T) ≤ 40 ∧ ∀ k z d b, 2 ≤ z → z ≤ 5 → P k z d b < z
section Lay
variable {T Λ : Lv} {P : Pv} {nd a b k p u x n d i j : Nat} {q : Nat → Nat}
theorem cS_mono : ∀ {n b : Nat}, b ≤ n → cS T nd b ≤ cS T nd n
  | 0, b, h => by
    have : b = 0 := by omega
    subst this; exact Nat.le_refl _
  | n + 1, b, h => by
    by_cases e : b = n + 1
    · subst e; exact Nat.le_refl _
    · have := cS_mono (n := n) (b := b) (by omega)
      show cS T nd b ≤ cS T nd n + sN T nd n
      omega
theorem ct_below {p : Nat → Prop} [DecidablePred p] (hb : b ≤ n) (h1 : ∀ j, j < b → p j) (h2 : ∀ j, b ≤ j → j < n → ¬ p j) : ct p n = b := by
  have e1 : ct p n = ct p b := ct_ext hb h2
  rw [e1]
  have : ∀ c, c ≤ b → ct p c = c := fun c => by
    induction c with
    | zero => intro _; rfl
    | succ c ih =>
      intro hc
      show ct p c + (if p c then 1 else 0) = c + 1
      rw [ih (by omega), if_pos (h1 c (by omega))]
  exact this b (Nat.le_refl _)
theorem bk_is (hb : b < tB T) (hp : p < sN T nd b) : bkN T nd (cS T nd b + p) = b := by
  refine ct_below (by omega) (fun j hj => ?_) (fun j hj h2 h3 => ?_)
  · have := cS_mono (T := T) (nd := nd) (n := b) (b := j + 1) (by omega)
    show cS T nd (j + 1) ≤ _
    omega
  · have := cS_mono (T := T) (nd := nd) (n := j + 1) (b := b + 1) (by omega)
    have e : cS T nd (b + 1) = cS T nd b + sN T nd b := rfl
    have h4 : cS T nd (j + 1) ≤ cS T nd b + p := h3
    omega
theorem cS_in : ∀ {n k : Nat}, k < cS T nd n → ∃ b p, b < n ∧ p < sN T nd b ∧ k = cS T nd b + p
  | 0, k, h => absurd h (Nat.not_lt_zero _)
  | n + 1, k, h => by
    have h1 : k < cS T nd n + sN T nd n := h
    by_cases e : k < cS T nd n
    · obtain ⟨b, p, h2, h3, h4⟩ := cS_in e
      exact ⟨b, p, by omega, h3, h4⟩
    · exact ⟨n, k - cS T nd n, by omega, by omega, by omega⟩
theorem md (h1 : a < nd) (h2 : p < nd) : (a + p) % nd = if a + p < nd then a + p else a + p - nd := by
  split
  · rename_i h; exact Nat.mod_eq_of_lt h
  · rename_i h
    rw [Nat.mod_eq_sub_mod (by omega)]
    exact Nat.mod_eq_of_lt (by omega)
theorem dIn_lt (h : okT T P nd) (hb : b < tB T) (hp : p < sN T nd b) (hu : u < tZ T b) : dIn T nd b p u < nd := by
  have h1 := h.1.2.2.2.2.2.2.2.1 b u hb hu
  have h2 := h.2.2.1
  unfold dIn
  split
  · exact Nat.mod_lt _ (by omega)
  · split <;> omega
theorem dIn_inj (h : okT T P nd) (hb : b < tB T) (hp : p < sN T nd b) {v : Nat} (hu : u < tZ T b) (hv : v < tZ T b) (e : dIn T nd b p u = dIn T nd b p v) : u = v := by
  have h1 := h.1.2.2.2.2.2.2.2.1 b u hb hu
  have h3 := h.1.2.2.2.2.2.2.2.1 b v hb hv
  have h2 := h.2.2.1
  refine h.1.2.2.2.2.2.2.2.2 b u v hb hu hv ?_
  unfold dIn at e
  unfold sN at hp
  by_cases k1 : tK T b = 1
  · have k0 : ¬ tK T b = 0 := by omega
    rw [if_neg k0, if_pos k1] at hp
    rw [if_pos k1, if_pos k1, md (by omega) hp, md (by omega) hp] at e
    split at e <;> split at e <;> omega
  · rw [if_neg k1, if_neg k1] at e
    split at e <;> omega
theorem ch_le : ∀ d, chN Λ q k d ≤ d
  | 0 => Nat.le_refl _
  | d + 1 => by
    have := ch_le d
    unfold chN
    split
    · omega
    · split
      · omega
      · split <;> omega
theorem ch_off : ∀ d, 0 < chN Λ q k d → ¬ onK Λ k (chN Λ q k d - 1)
  | 0 => fun h => absurd h (Nat.not_lt_zero _)
  | d + 1 => by
    have ih := ch_off d
    unfold chN
    split
    · exact ih
    · rename_i h1
      split
      · exact fun _ => h1
      · rename_i h2
        split
        · exact fun _ => h1
        · exact fun _ => ih (by omega)
theorem sp_low : ∀ {n j : Nat}, j < n → spS Λ n j = spS Λ (j + 1) j
  | 0, j, h => by omega
  | n + 1, j, h => by
    by_cases e : j = n
    · subst e; rfl
    · show (if j = n then _ else spS Λ n j) = _
      rw [if_neg e]
      exact sp_low (by omega)
theorem sp_is (h : j < n) : spS Λ n j = chN Λ (spS Λ j) j (yD Λ) := by
  rw [sp_low h]
  show (if j = j then _ else _) = _
  rw [if_pos rfl]
end Lay
