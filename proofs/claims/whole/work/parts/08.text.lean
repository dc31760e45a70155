theorem t_chk {X : XX} {G : GG} {ρ : Nat → Nat} {n : Nat} {rt : Rt} {d : Nat} (hX : Ok X G ρ cJ3_checkIndex_8e157 3 RJ3 d) {x y : Int32} {v : Value} {m : Mm} (hi : inbL x y = true) (hF : Fin' X G ρ n (some .int) (some (.int x)) rt m) : J X G ρ n 3 0 [(0, .int x), (1, .int y), (2, v)] [] rt m := by
  simp only [inbL, Bool.and_eq_true, decide_eq_true_eq] at hi
  refine J_iload_n hX dJ3_checkIndex_8e157_0 rfl 0 rfl ?_
  refine J_if_lt (α := Unit) (A := none) (B := some ()) (res := ()) hX 9 dJ3_checkIndex_8e157_1 (by decide) (by rw [if_neg hi.1]) (fun c _ => absurd c hi.1) (fun _ _ => ?_)
  refine J_iload_n hX dJ3_checkIndex_8e157_4 rfl 0 rfl ?_
  refine J_iload_n hX dJ3_checkIndex_8e157_5 rfl 1 rfl ?_
  refine J_icmp_lt (α := Unit) (A := some ()) (B := none) (res := ()) hX 16 dJ3_checkIndex_8e157_6 (by decide) (by rw [if_pos hi.2]) (fun _ _ => ?_) (fun c _ => absurd hi.2 c)
  refine J_iload_n hX dJ3_checkIndex_8e157_16 rfl 0 rfl ?_
  exact J_ireturn hX dJ3_checkIndex_8e157_17 rfl hF rfl
theorem c_chk {G : GG} {l : Launch} {ρ : Nat → Nat} {n : Nat} {rt : Rt} {x y : Int32} {v : Value} (hv : v = .null ∨ v = .ref 3000) {m : Mm} (hi : inbL x y = true) : CT G l yJ3_checkIndex_8e157 cJ3_checkIndex_8e157 3 (some .int) 0 0 0 ρ n rt [.int x, .int y, v] m (some (.int x)) rt m :=
  ct_of_J (by decide +kernel) rfl (by rcases hv with rfl | rfl <;> exact Nat.le_of_ble_eq_true rfl) (fun X hX e1 e2 e3 e4 hQ hr hl => t_chk hX hi ⟨by rw [hQ, e3, e4], hr, hl⟩)
theorem t_J0_checkIndex_df160 {X : XX} {G : GG} {ρ : Nat → Nat} {n : Nat} {rt : Rt} {d : Nat} (hX : Ok X G ρ cJ0_checkIndex_df160 2 RJ0 d) (hd0 : 1 ≤ d) {x y : Int32} {m : Mm} (hi : inbL x y = true) (hF : Fin' X G ρ n none none rt m) : J X G ρ n 2 0 [(0, .int x), (1, .int y)] [] rt m := by
  refine J_iload_n hX dJ0_checkIndex_df160_0 rfl 0 rfl ?_
  refine J_iload_n hX dJ0_checkIndex_df160_1 rfl 1 rfl ?_
  refine J_getSF hX dJ0_checkIndex_df160_2 ft_RJ0_1053 (fun v hv => ?_)
  refine J_callSi (As := [.int x, .int y, v]) (st := []) hX dJ0_checkIndex_df160_5 cw_RJ0_1059 (by omega) (c_chk hv hi) rfl rfl (Nat.le_of_ble_eq_true rfl) ?_
  refine J_pop hX dJ0_checkIndex_df160_8 rfl ?_
  exact J_return hX dJ0_checkIndex_df160_9 rfl hF
theorem c_J0_checkIndex_df160 {G : GG} {l : Launch} {ρ : Nat → Nat} {n : Nat} {rt : Rt} {x y : Int32} {m : Mm} (hi : inbL x y = true) : CT G l yJ0_checkIndex_df160 cJ0_checkIndex_df160 2 none 1 0 0 ρ n rt [.int x, .int y] m none rt m :=
  ct_of_J (by decide +kernel) rfl (Nat.le_of_ble_eq_true rfl) (fun X hX e1 e2 e3 e4 hQ hr hl => t_J0_checkIndex_df160 hX (Nat.le_refl _) hi ⟨by rw [hQ, e3, e4], hr, hl⟩)
