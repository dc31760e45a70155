/-! MATH HALF: the remainder that is never below 0 -/
def fmP (v : Int32) (z : Nat) : Nat := (v.toInt % (z : Int)).toNat
section Fm
variable {z n a : Nat} {v r : Int32} {m : Mm}
theorem bm_id {x : Int} (h1 : -2147483648 ≤ x) (h2 : x < 2147483648) : x.bmod (2 ^ 32) = x := by
  rw [Int.bmod_def]
  split <;> omega
theorem em_le {x : Int} (h1 : 1 ≤ z) (h : 0 ≤ x) : x % (z : Int) ≤ x := by
  have e := Int.emod_add_mul_ediv x z
  have h2 : 0 ≤ x / (z : Int) := Int.ediv_nonneg h (by omega)
  have h3 : 0 ≤ (z : Int) * (x / (z : Int)) := Int.mul_nonneg (by omega) h2
  omega
theorem fm_r (h1 : 2 ≤ z) (h2 : z ≤ 5) : (v - v / nI z * nI z).toInt = v.toInt.tmod z := by
  have hz : (nI z).toInt = z := nI_toInt (by show _ < 2147483648; omega)
  have b1 := Int32.le_toInt v
  have b2 := Int32.toInt_lt v
  have q := Int.tmod_add_mul_tdiv v.toInt z
  have hq : Int.natAbs (v.toInt.tdiv z) ≤ 1073741824 := by
    rw [Int.natAbs_tdiv]
    have : v.toInt.natAbs ≤ 2147483648 := by omega
    have e : (z : Int).natAbs = z := Int.natAbs_natCast z
    rw [e]
    calc v.toInt.natAbs / z ≤ v.toInt.natAbs / 2 := Nat.div_le_div_left h1 (by omega)
      _ ≤ 1073741824 := by omega
  have t1 : Int.natAbs (v.toInt.tmod z) < 5 := by
    rw [Int.natAbs_tmod]
    have e : (z : Int).natAbs = z := Int.natAbs_natCast z
    rw [e]
    have := Nat.mod_lt v.toInt.natAbs (show 0 < z by omega)
    omega
  have d1 : (v / nI z).toInt = v.toInt.tdiv z := by
    rw [Int32.toInt_div, hz]
    exact bm_id (by omega) (by omega)
  rw [Int32.toInt_sub, Int32.toInt_mul, d1, hz]
  have e : v.toInt - (v.toInt.tdiv z * z).bmod (2 ^ 32) = v.toInt - (v.toInt.tdiv z * z) := by
    rw [bm_id]
    · have : v.toInt.tdiv z * z = v.toInt - v.toInt.tmod z := by rw [Int.mul_comm]; omega
      rw [this]
      by_cases hv : 0 ≤ v.toInt
      · have := Int.tmod_nonneg (z : Int) hv
        have h3 : v.toInt.tmod z ≤ v.toInt := by
          rw [Int.tmod_eq_emod_of_nonneg hv]
          exact em_le (by omega) hv
        omega
      · have h3 : v.toInt.tmod z ≤ 0 := by
          have := Int.tmod_nonneg (a := -v.toInt) (z : Int) (by omega)
          rw [Int.neg_tmod] at this
          omega
        have h4 : v.toInt ≤ v.toInt.tmod z := by
          have e1 := Int.neg_tmod v.toInt z
          have e2 : (-v.toInt).tmod z ≤ -v.toInt := by
            rw [Int.tmod_eq_emod_of_nonneg (by omega)]
            exact em_le (by omega) (by omega)
          omega
        omega
    · have : v.toInt.tdiv z * z = v.toInt - v.toInt.tmod z := by rw [Int.mul_comm]; omega
      rw [this]
      by_cases hv : 0 ≤ v.toInt
      · have := Int.tmod_nonneg (z : Int) hv
        omega
      · have h4 : v.toInt ≤ v.toInt.tmod z := by
          have e1 := Int.neg_tmod v.toInt z
          have e2 : (-v.toInt).tmod z ≤ -v.toInt := by
            rw [Int.tmod_eq_emod_of_nonneg (by omega)]
            exact em_le (by omega) (by omega)
          omega
        omega
  rw [e]
  have : v.toInt.tdiv z * z = v.toInt - v.toInt.tmod z := by rw [Int.mul_comm]; omega
  rw [this]
  exact (bm_id (by omega) (by omega)).trans (by omega)
theorem fm_lt (h1 : 2 ≤ z) : fmP v z < z := by
  unfold fmP
  have a1 := Int.emod_nonneg v.toInt (show (z : Int) ≠ 0 by omega)
  have a2 := Int.emod_lt_of_pos v.toInt (show (0 : Int) < z by omega)
  omega
theorem fm_em (h1 : 2 ≤ z) : v.toInt % (z : Int) = (if v.toInt.tmod z < 0 then v.toInt.tmod z + z else v.toInt.tmod z) := by
  have hz : (z : Int) ≠ 0 := by omega
  have a2 := Int.emod_nonneg v.toInt hz
  have a3 := Int.emod_lt_of_pos v.toInt (show (0 : Int) < z by omega)
  rw [Int.tmod_eq_emod]
  have e : (Int.natAbs (z : Int)) = z := Int.natAbs_natCast z
  split <;> split <;> omega
theorem fm_nI (h1 : 2 ≤ z) (h2 : z ≤ 5) (h : r.toInt = v.toInt % (z : Int)) : r = nI (fmP v z) := by
  apply Int32.toInt_inj.mp
  have h3 := fm_lt (v := v) h1
  have a2 := Int.emod_nonneg v.toInt (show (z : Int) ≠ 0 by omega)
  rw [nI_toInt (by show _ < 2147483648; omega), h]
  unfold fmP
  omega
theorem x_neg (hz : z < 2147483648) : (v ^^^ nI z) < 0 ↔ v < 0 := by
  have aux : ∀ x : Int32, x < 0 ↔ x.toBitVec.msb = true := fun x => by
    rw [Int32.lt_iff_toInt_lt, BitVec.msb_eq_toInt]
    have e : (0 : Int32).toInt = 0 := by decide
    rw [e]
    exact ⟨fun h => decide_eq_true h, fun h => of_decide_eq_true h⟩
  have hz2 : (nI z).toBitVec.msb = false := by
    cases h : (nI z).toBitVec.msb with
    | false => rfl
    | true => exact absurd ((aux _).mpr h) (nI_pos (by show _ < 2147483648; omega))
  rw [aux, aux, Int32.toBitVec_xor, BitVec.msb_xor, hz2, Bool.xor_false]
theorem fm_C (h1 : 2 ≤ z) (h2 : z ≤ 5) : f_J9_floorMod_7cf53 v (nI z) m = some (nI (fmP v z), m) := by
  have hr := fm_r (v := v) h1 h2
  have he := fm_em (v := v) h1
  have hz : (nI z).toInt = z := nI_toInt (by show _ < 2147483648; omega)
  have t1 : Int.natAbs (v.toInt.tmod z) < z := by
    rw [Int.natAbs_tmod]
    have e : (z : Int).natAbs = z := Int.natAbs_natCast z
    rw [e]
    exact Nat.mod_lt v.toInt.natAbs (show 0 < z by omega)
  have e0 : (0 : Int32).toInt = 0 := by decide
  unfold f_J9_floorMod_7cf53
  rw [q_nz1 (by omega) (by omega)]
  generalize v - v / nI z * nI z = r at hr
  by_cases hv : v < 0
  · rw [if_pos ((x_neg (by omega)).mpr hv)]
    rw [Int32.lt_iff_toInt_lt, e0] at hv
    have h3 : v.toInt.tmod z ≤ 0 := by
      have := Int.tmod_nonneg (a := -v.toInt) (z : Int) (by omega)
      rw [Int.neg_tmod] at this
      omega
    by_cases h0 : r = 0
    · rw [if_pos h0]
      have : r = nI (fmP v z) := fm_nI h1 h2 (by
        rw [he, ← hr, h0, e0, if_neg (by omega)])
      rw [← this]
    · rw [if_neg h0]
      have h4 : r.toInt ≠ 0 := fun e => h0 (Int32.toInt_inj.mp (e.trans e0.symm))
      have : r + nI z = nI (fmP v z) := fm_nI h1 h2 (by
        rw [he, ← hr, if_pos (by omega), Int32.toInt_add, hz]
        exact bm_id (by omega) (by omega))
      rw [this]
  · rw [if_neg (fun e => hv ((x_neg (by omega)).mp e))]
    rw [Int32.lt_iff_toInt_lt, e0] at hv
    have h3 := Int.tmod_nonneg (a := v.toInt) (z : Int) (by omega)
    have : r = nI (fmP v z) := fm_nI h1 h2 (by rw [he, ← hr, if_neg (by omega)])
    rw [← this]
theorem fm_R (h1 : 2 ≤ z) (h2 : z ≤ 5) : ((v - v / nI z * nI z) + nI z) - ((v - v / nI z * nI z) + nI z) / nI z * nI z = nI (fmP v z) := by
  have hr := fm_r (v := v) h1 h2
  have he := fm_em (v := v) h1
  have hz : (nI z).toInt = z := nI_toInt (by show _ < 2147483648; omega)
  have t1 : Int.natAbs (v.toInt.tmod z) < z := by
    rw [Int.natAbs_tmod]
    have e : (z : Int).natAbs = z := Int.natAbs_natCast z
    rw [e]
    exact Nat.mod_lt v.toInt.natAbs (show 0 < z by omega)
  generalize v - v / nI z * nI z = r at hr
  have ha : (r + nI z).toInt = r.toInt + z := by
    rw [Int32.toInt_add, hz]
    exact bm_id (by omega) (by omega)
  refine fm_nI h1 h2 ?_
  rw [fm_r h1 h2, ha, Int.tmod_eq_emod_of_nonneg (by omega), he, hr]
  rcases Int.lt_or_le (v.toInt.tmod z) 0 with h | h
  · rw [if_pos h]
    exact Int.emod_eq_of_lt (by omega) (by omega)
  · rw [if_neg (by omega), Int.add_emod_right]
    exact Int.emod_eq_of_lt (by omega) (by omega)
end Fm
