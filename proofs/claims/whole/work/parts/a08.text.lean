theorem t_chk {X : XX} {G : GG} {ρ : Nat → Nat} {n : Nat} {rt : Rt} {d : Nat} (hX : Ok X G ρ cJ3_checkIndex_8e157 3 RJ3 d) {x y : Int32} {v : Value} {m : Mm} (hi : inbL x y = true) (hF : Fin' X G ρ n (some .int) (some (.int x)) rt m) : J X G ρ n 3 0 [(0, .int x), (1, .int y), (2, v)] [] rt m := by
  simp only [inbL, Bool.and_eq_true, decide_eq_true_eq] at hi
  refine J_iload_n hX dJ3_checkIndex_8e157_0 rfl 0 rfl ?_
  refine J_if_lt (α := Unit) (A := none) (B := some ()) (res := ()) hX 9 dJ3_checkIndex_8e157_1 (by decide) (by rw [if_neg hi.1]) (fun c _ => absurd c hi.1) (fun _ _ => ?_)
  refine J_iload_n hX dJ3_checkIndex_8e157_4 rfl 0 rfl ?_
  refine J_iload_n hX dJ3_checkIndex_8e157_5 rfl 1 rfl ?_
  refine J_icmp_lt (α := Unit) (A := some ()) (B := none) (res := ()) hX 16 dJ3_checkIndex_8e157_6 (by decide) (by rw [if_pos hi.2]) (fun _ _ => ?_) (fun c _ => absurd hi.2 c)
  refine J_iload_n hX dJ3_checkIndex_8e157_16 rfl 0 rfl ?_
  exact J_ireturn hX dJ3_checkIndex_8e157_17 rfl hF rfl
theorem c_chk {G : GG} {l : Launch} {ρ : Nat → Nat} {n : Nat} {rt : Rt} {x y : Int32} {v : Value} (hv : v = .null ∨ v = .ref 3000) {m : Mm} (hi : inbL x y = true) : CT G l yJ3_checkIndex_8e157 cJ3_checkIndex_8e157 3 (some .int) 0 0 0 ρ n rt [.int x, .int y, v] m (some (.int x)) rt m :=
  ct_of_J (by decide +kernel) rfl (by rcases hv with rfl | rfl <;> exact Nat.le_of_ble_eq_true rfl) (fun X hX e1 e2 e3 e4 hQ hr hl => t_chk hX hi ⟨by rw [hQ, e3, e4], hr, hl⟩)
theorem t_J0_checkIndex_df160 {X : XX} {G : GG} {ρ : Nat → Nat} {n : Nat} {rt : Rt} {d : Nat} (hX : Ok X G ρ cJ0_checkIndex_df160 2 RJ0 d) (hd0 : 1 ≤ d) {x y : Int32} {m : Mm} (hi : inbL x y = true) (hF : Fin' X G ρ n none none rt m) : J X G ρ n 2 0 [(0, .int x), (1, .int y)] [] rt m := by
  refine J_iload_n hX dJ0_checkIndex_df160_0 rfl 0 rfl ?_
  refine J_iload_n hX dJ0_checkIndex_df160_1 rfl 1 rfl ?_
  refine J_getSF hX dJ0_checkIndex_df160_2 ft_RJ0_1053 (fun v hv => ?_)
  refine J_callSi (As := [.int x, .int y, v]) (st := []) hX dJ0_checkIndex_df160_5 cw_RJ0_1059 (by omega) (c_chk hv hi) rfl rfl (Nat.le_of_ble_eq_true rfl) ?_
  refine J_pop hX dJ0_checkIndex_df160_8 rfl ?_
  exact J_return hX dJ0_checkIndex_df160_9 rfl hF
theorem c_J0_checkIndex_df160 {G : GG} {l : Launch} {ρ : Nat → Nat} {n : Nat} {rt : Rt} {x y : Int32} {m : Mm} (hi : inbL x y = true) : CT G l yJ0_checkIndex_df160 cJ0_checkIndex_df160 2 none 1 0 0 ρ n rt [.int x, .int y] m none rt m :=
  ct_of_J (by decide +kernel) rfl (Nat.le_of_ble_eq_true rfl) (fun X hX e1 e2 e3 e4 hQ hr hl => t_J0_checkIndex_df160 hX (Nat.le_refl _) hi ⟨by rw [hQ, e3, e4], hr, hl⟩)
theorem J_putR {X : XX} {G : GG} {ρ : Nat → Nat} {n : Nat} {cc : ByteArray} {nL : Nat} {own : String} {d pc : Nat} {lv : List (Nat × Value)} {st : List Value} {rt : Rt} {m : Mm} {idx ci k a b : Nat} {C : String} (rt2 : Rt) (hX : Ok X G ρ cc nL own d) (hd : decode cc pc = .ok (.putfield idx, 3)) (hf : PL own idx ci k (.object C)) (ha : a < n) (hla : (lay a).1 = ci) (ht : (ftab ci).getD k 0 = 2)
    (h1 : rt2 a k = some b) (h2 : ∀ c j, ¬ (c = a ∧ j = k) → rt2 c j = rt c j) (k1 : J X G ρ n nL (pc + 3) lv st rt2 m) : J X G ρ n nL pc lv (.ref b :: .ref a :: st) rt m :=
  J_putF (v := .ref b) (rt2 := rt2) (m2 := m) hX hd hf ha hla rfl rfl (by rw [ht]; simp [fv, h1, va_rf, mv]) (fun j hj t => by simp only [fv, h2 a j (fun z => hj z.2)]) (fun c hc => cE_rt fun j => h2 c j (fun z => hc z.1)) k1
theorem RT_t {t t2 u w v : Nat} {x : Option Nat} : ∀ c j, ¬ (c = 0 ∧ j = 1) → RT t2 u w v x c j = RT t u w v x c j := fun c j h => by simp [RT, h]
theorem RT_u {t u u2 w v : Nat} {x : Option Nat} : ∀ c j, ¬ (c = 0 ∧ j = 2) → RT t u2 w v x c j = RT t u w v x c j := fun c j h => by simp [RT, h]
theorem RT_w {t u w w2 v : Nat} {x : Option Nat} : ∀ c j, ¬ (c = 0 ∧ j = 4) → RT t u w2 v x c j = RT t u w v x c j := fun c j h => by simp [RT, h]
theorem RT_v {t u w v v2 : Nat} {x : Option Nat} : ∀ c j, ¬ (c = 0 ∧ j = 5) → RT t u w v2 x c j = RT t u w v x c j := fun c j h => by simp [RT, h]
theorem RT_x {t u w v : Nat} {x x2 : Option Nat} : ∀ c j, ¬ (c = 17 ∧ j = 1) → RT t u w v x2 c j = RT t u w v x c j := fun c j h => by simp [RT, h]
/-- the references behind array(): the two Tolds change places if the answer is 0 -/
def rtA (t u w v : Nat) (r : Int32) : Rt := if r = 0 then RT u t w v (some u) else RT t u w v (some u)
def rtW (t u w v : Nat) (x : Option Nat) (r : Int32) : Rt := if r = 0 then RT t u v w x else RT t u w v x
section FinRt
variable {X : XX} {G : GG} {ρ : Nat → Nat} {n : Nat} {ret : Option FieldType} {ov : Option Value} {z rE : Int32} {m mE : Mm} {t u w v : Nat} {x : Option Nat}
theorem fin_an (h : some (z, m) = some (rE, mE)) (c : ¬ z = 0) (hF : Fin' X G ρ n ret (some (.int rE)) (rtA t u w v rE) mE) : Fin' X G ρ n ret (some (.int rE)) (RT t u w v (some u)) mE := by
  cases h; rw [rtA, if_neg c] at hF; exact hF
theorem fin_a0 (h : some ((0 : Int32), m) = some (rE, mE)) (hF : Fin' X G ρ n ret (some (.int rE)) (rtA t u w v rE) mE) : Fin' X G ρ n ret (some (.int rE)) (RT u t w v (some u)) mE := by
  cases h; rw [rtA, if_pos rfl] at hF; exact hF
theorem fin_wn (h : some (z, m) = some (rE, mE)) (c : ¬ z = 0) (hF : Fin' X G ρ n ret (some (.int rE)) (rtW t u w v x rE) mE) : Fin' X G ρ n ret (some (.int rE)) (RT t u w v x) mE := by
  cases h; rw [rtW, if_neg c] at hF; exact hF
theorem fin_w0 (h : some ((0 : Int32), m) = some (rE, mE)) (hF : Fin' X G ρ n ret (some (.int rE)) (rtW t u w v x rE) mE) : Fin' X G ρ n ret (some (.int rE)) (RT t u v w x) mE := by
  cases h; rw [rtW, if_pos rfl] at hF; exact hF
end FinRt
