theorem tx_ne0 : ∀ j, j < 23 → 0 < j → (Cond.not (Cond.eq (sK 0) (sK j)) ∈ sC ∨ Cond.not (Cond.eq (sK j) (sK 0)) ∈ sC) := by decide +kernel
theorem tx_ne1 : ∀ j, j < 23 → 1 < j → (Cond.not (Cond.eq (sK 1) (sK j)) ∈ sC ∨ Cond.not (Cond.eq (sK j) (sK 1)) ∈ sC) := by decide +kernel
theorem tx_ne2 : ∀ j, j < 23 → 2 < j → (Cond.not (Cond.eq (sK 2) (sK j)) ∈ sC ∨ Cond.not (Cond.eq (sK j) (sK 2)) ∈ sC) := by decide +kernel
theorem tx_ne3 : ∀ j, j < 23 → 3 < j → (Cond.not (Cond.eq (sK 3) (sK j)) ∈ sC ∨ Cond.not (Cond.eq (sK j) (sK 3)) ∈ sC) := by decide +kernel
theorem tx_ne4 : ∀ j, j < 23 → 4 < j → (Cond.not (Cond.eq (sK 4) (sK j)) ∈ sC ∨ Cond.not (Cond.eq (sK j) (sK 4)) ∈ sC) := by decide +kernel
theorem tx_ne5 : ∀ j, j < 23 → 5 < j → (Cond.not (Cond.eq (sK 5) (sK j)) ∈ sC ∨ Cond.not (Cond.eq (sK j) (sK 5)) ∈ sC) := by decide +kernel
theorem tx_ne6 : ∀ j, j < 23 → 6 < j → (Cond.not (Cond.eq (sK 6) (sK j)) ∈ sC ∨ Cond.not (Cond.eq (sK j) (sK 6)) ∈ sC) := by decide +kernel
theorem tx_ne7 : ∀ j, j < 23 → 7 < j → (Cond.not (Cond.eq (sK 7) (sK j)) ∈ sC ∨ Cond.not (Cond.eq (sK j) (sK 7)) ∈ sC) := by decide +kernel
theorem tx_ne8 : ∀ j, j < 23 → 8 < j → (Cond.not (Cond.eq (sK 8) (sK j)) ∈ sC ∨ Cond.not (Cond.eq (sK j) (sK 8)) ∈ sC) := by decide +kernel
theorem tx_ne9 : ∀ j, j < 23 → 9 < j → (Cond.not (Cond.eq (sK 9) (sK j)) ∈ sC ∨ Cond.not (Cond.eq (sK j) (sK 9)) ∈ sC) := by decide +kernel
theorem tx_ne10 : ∀ j, j < 23 → 10 < j → (Cond.not (Cond.eq (sK 10) (sK j)) ∈ sC ∨ Cond.not (Cond.eq (sK j) (sK 10)) ∈ sC) := by decide +kernel
theorem tx_ne11 : ∀ j, j < 23 → 11 < j → (Cond.not (Cond.eq (sK 11) (sK j)) ∈ sC ∨ Cond.not (Cond.eq (sK j) (sK 11)) ∈ sC) := by decide +kernel
theorem tx_ne12 : ∀ j, j < 23 → 12 < j → (Cond.not (Cond.eq (sK 12) (sK j)) ∈ sC ∨ Cond.not (Cond.eq (sK j) (sK 12)) ∈ sC) := by decide +kernel
theorem tx_ne13 : ∀ j, j < 23 → 13 < j → (Cond.not (Cond.eq (sK 13) (sK j)) ∈ sC ∨ Cond.not (Cond.eq (sK j) (sK 13)) ∈ sC) := by decide +kernel
theorem tx_ne14 : ∀ j, j < 23 → 14 < j → (Cond.not (Cond.eq (sK 14) (sK j)) ∈ sC ∨ Cond.not (Cond.eq (sK j) (sK 14)) ∈ sC) := by decide +kernel
theorem tx_ne15 : ∀ j, j < 23 → 15 < j → (Cond.not (Cond.eq (sK 15) (sK j)) ∈ sC ∨ Cond.not (Cond.eq (sK j) (sK 15)) ∈ sC) := by decide +kernel
theorem tx_ne16 : ∀ j, j < 23 → 16 < j → (Cond.not (Cond.eq (sK 16) (sK j)) ∈ sC ∨ Cond.not (Cond.eq (sK j) (sK 16)) ∈ sC) := by decide +kernel
theorem tx_ne17 : ∀ j, j < 23 → 17 < j → (Cond.not (Cond.eq (sK 17) (sK j)) ∈ sC ∨ Cond.not (Cond.eq (sK j) (sK 17)) ∈ sC) := by decide +kernel
theorem tx_ne18 : ∀ j, j < 23 → 18 < j → (Cond.not (Cond.eq (sK 18) (sK j)) ∈ sC ∨ Cond.not (Cond.eq (sK j) (sK 18)) ∈ sC) := by decide +kernel
theorem tx_ne19 : ∀ j, j < 23 → 19 < j → (Cond.not (Cond.eq (sK 19) (sK j)) ∈ sC ∨ Cond.not (Cond.eq (sK j) (sK 19)) ∈ sC) := by decide +kernel
theorem tx_ne20 : ∀ j, j < 23 → 20 < j → (Cond.not (Cond.eq (sK 20) (sK j)) ∈ sC ∨ Cond.not (Cond.eq (sK j) (sK 20)) ∈ sC) := by decide +kernel
theorem tx_ne21 : ∀ j, j < 23 → 21 < j → (Cond.not (Cond.eq (sK 21) (sK j)) ∈ sC ∨ Cond.not (Cond.eq (sK j) (sK 21)) ∈ sC) := by decide +kernel
theorem tx_neL : ∀ i, i < 22 → ∀ j, j < 23 → i < j → (Cond.not (Cond.eq (sK i) (sK j)) ∈ sC ∨ Cond.not (Cond.eq (sK j) (sK i)) ∈ sC) := by
  intro i hi
  match i, hi with
  | 0, _ => exact tx_ne0
  | 1, _ => exact tx_ne1
  | 2, _ => exact tx_ne2
  | 3, _ => exact tx_ne3
  | 4, _ => exact tx_ne4
  | 5, _ => exact tx_ne5
  | 6, _ => exact tx_ne6
  | 7, _ => exact tx_ne7
  | 8, _ => exact tx_ne8
  | 9, _ => exact tx_ne9
  | 10, _ => exact tx_ne10
  | 11, _ => exact tx_ne11
  | 12, _ => exact tx_ne12
  | 13, _ => exact tx_ne13
  | 14, _ => exact tx_ne14
  | 15, _ => exact tx_ne15
  | 16, _ => exact tx_ne16
  | 17, _ => exact tx_ne17
  | 18, _ => exact tx_ne18
  | 19, _ => exact tx_ne19
  | 20, _ => exact tx_ne20
  | 21, _ => exact tx_ne21
  | i + 22, hi => exact absurd hi (by omega)
theorem tx_ne : ∀ i j, i < 23 → j < 23 → i ≠ j → (Cond.not (Cond.eq (sK i) (sK j)) ∈ sC ∨ Cond.not (Cond.eq (sK j) (sK i)) ∈ sC) := by
  intro i j hi hj hne
  rcases Nat.lt_or_gt_of_ne hne with h | h
  · exact tx_neL i (by omega) j hj h
  · exact (tx_neL j (by omega) i hi h).symm
