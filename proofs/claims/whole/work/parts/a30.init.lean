def lr0 : List (Nat × Nat × Nat) := []
def lr1 : List (Nat × Nat × Nat) := (1, 0, 2) :: lr0
theorem in_X7_init_1 {G : GG} {l : Launch} {ρ : Nat → Nat} {m : Mm} (hz : ∀ k, 2 ≤ k → zeroAt m k) : CN G l yX7_init cX7_init 1 1 1 1000 ρ 2 (rL lr0) [.ref 1] m 3 (rL lr1) m := cn_of_J (by decide) rfl rfl (Nat.le_of_ble_eq_true rfl) (fun X hX hR e2 e3 e4 hQ hr hl hin => by
  have hRc : X.1.2.2.2.1.cells = 1 := by rw [hR]; rfl
  have hRs : X.1.2.2.2.1.slots = 1000 := by rw [hR]; rfl
  have hag : Ag 2 ρ ρ := Ag_rf
  show J X G ρ 2 1 0 [(0, .ref 1)] [] (rL lr0) m
  refine J_aload_n hX dX7_init_0 rfl 0 rfl ?_
  refine J_objinit hX dX7_init_1 (by omega) oi_RX7_3 (Nat.le_of_ble_eq_true rfl) ?_
  refine J_aload_n hX dX7_init_4 rfl 0 rfl ?_
  refine J_sipush hX (1000 : Int32) dX7_init_5 (by decide) ?_
  refine J_newarr hX dX7_init_8 rfl ac_char lay_2 (Or.inr (Or.inl ⟨rfl, rfl⟩)) (by decide) (by decide) (by decide) (rfree_ne (by decide +kernel)) (hz 2 (by decide)) (by simp) (by simp) (by decide) (by (try simp only [bump]); omega) (by (try simp only [bump]); omega) (fun q1 hX => ?_)
  have hag := Ag_up (q := q1) hag (by decide : 2 ≤ 2) (by decide)
  refine J_putRF (rL lr1) hX hin dX7_init_10 pf_RX7_9 (by decide) lo_1 rfl (fun _ => rfl) (fun _ => rfl) rL_new rL_old ?_
  exact J_returnN hX dX7_init_13 hQ (by (try simp only [bump]); omega) (by (try simp only [bump]); omega) hr hl hag)
def lr2 : List (Nat × Nat × Nat) := (0, 0, 1) :: lr1
def lr3 : List (Nat × Nat × Nat) := (3, 3, 4) :: lr2
def lr4 : List (Nat × Nat × Nat) := (3, 4, 5) :: lr3
def lr5 : List (Nat × Nat × Nat) := (3, 5, 6) :: lr4
def lr6 : List (Nat × Nat × Nat) := (7, 0, 8) :: lr5
def lr7 : List (Nat × Nat × Nat) := (7, 2, 9) :: lr6
theorem in_X3_init_7 {G : GG} {l : Launch} {ρ : Nat → Nat} {m : Mm} (hz : ∀ k, 8 ≤ k → zeroAt m k) : CN G l yX3_init cX3_init 1 1 2 1024 ρ 8 (rL lr5) [.ref 7] m 10 (rL lr7) m := cn_of_J (by decide) rfl rfl (Nat.le_of_ble_eq_true rfl) (fun X hX hR e2 e3 e4 hQ hr hl hin => by
  have hRc : X.1.2.2.2.1.cells = 2 := by rw [hR]; rfl
  have hRs : X.1.2.2.2.1.slots = 1024 := by rw [hR]; rfl
  have hag : Ag 8 ρ ρ := Ag_rf
  show J X G ρ 8 1 0 [(0, .ref 7)] [] (rL lr5) m
  refine J_aload_n hX dX3_init_0 rfl 0 rfl ?_
  refine J_objinit hX dX3_init_1 (by omega) oi_RX3_3 (Nat.le_of_ble_eq_true rfl) ?_
  refine J_aload_n hX dX3_init_4 rfl 0 rfl ?_
  refine J_sipush hX (1000 : Int32) dX3_init_5 (by decide) ?_
  refine J_newarr hX dX3_init_8 rfl ac_int lay_8 (Or.inl ⟨rfl, rfl⟩) (by decide) (by decide) (by decide) (rfree_ne (by decide +kernel)) (hz 8 (by decide)) (by simp) (by simp) (by decide) (by (try simp only [bump]); omega) (by (try simp only [bump]); omega) (fun q1 hX => ?_)
  have hag := Ag_up (q := q1) hag (by decide : 8 ≤ 8) (by decide)
  refine J_putRF (rL lr6) hX hin dX3_init_10 pf_RX3_9 (by decide) lo_7 rfl (fun _ => rfl) (fun _ => rfl) rL_new rL_old ?_
  refine J_aload_n hX dX3_init_13 rfl 0 rfl ?_
  refine J_bipush hX (24 : Int32) dX3_init_14 (by decide) ?_
  refine J_newarr hX dX3_init_16 rfl ac_int lay_9 (Or.inl ⟨rfl, rfl⟩) (by decide) (by decide) (by decide) (rfree_ne (by decide +kernel)) (hz 9 (by decide)) (by simp) (by simp) (by decide) (by (try simp only [bump]); omega) (by (try simp only [bump]); omega) (fun q2 hX => ?_)
  have hag := Ag_up (q := q2) hag (by decide : 8 ≤ 9) (by decide)
  refine J_putRF (rL lr7) hX hin dX3_init_18 pf_RX3_15 (by decide) lo_7 rfl (fun _ => rfl) (fun _ => rfl) rL_new rL_old ?_
  exact J_returnN hX dX3_init_21 hQ (by (try simp only [bump]); omega) (by (try simp only [bump]); omega) hr hl hag)
def lr8 : List (Nat × Nat × Nat) := (3, 6, 7) :: lr7
theorem in_X8_init_3 {G : GG} {l : Launch} {ρ : Nat → Nat} {m : Mm} (hz : ∀ k, 4 ≤ k → zeroAt m k) : CN G l yX8_init cX8_init 1 2 6 1070 ρ 4 (rL lr2) [.ref 3] m 10 (rL lr8) m := cn_of_J (by decide) rfl rfl (Nat.le_of_ble_eq_true rfl) (fun X hX hR e2 e3 e4 hQ hr hl hin => by
  have hRc : X.1.2.2.2.1.cells = 6 := by rw [hR]; rfl
  have hRs : X.1.2.2.2.1.slots = 1070 := by rw [hR]; rfl
  have hag : Ag 4 ρ ρ := Ag_rf
  show J X G ρ 4 1 0 [(0, .ref 3)] [] (rL lr2) m
  refine J_aload_n hX dX8_init_0 rfl 0 rfl ?_
  refine J_objinit hX dX8_init_1 (by omega) oi_RX8_3 (Nat.le_of_ble_eq_true rfl) ?_
  refine J_aload_n hX dX8_init_4 rfl 0 rfl ?_
  refine J_bipush hX (6 : Int32) dX8_init_5 (by decide) ?_
  refine J_newarr hX dX8_init_7 rfl ac_int lay_4 (Or.inl ⟨rfl, rfl⟩) (by decide) (by decide) (by decide) (rfree_ne (by decide +kernel)) (hz 4 (by decide)) (by simp) (by simp) (by decide) (by (try simp only [bump]); omega) (by (try simp only [bump]); omega) (fun q1 hX => ?_)
  have hag := Ag_up (q := q1) hag (by decide : 4 ≤ 4) (by decide)
  refine J_putRF (rL lr3) hX hin dX8_init_9 pf_RX8_9 (by decide) lo_3 rfl (fun _ => rfl) (fun _ => rfl) rL_new rL_old ?_
  refine J_aload_n hX dX8_init_12 rfl 0 rfl ?_
  refine J_bipush hX (6 : Int32) dX8_init_13 (by decide) ?_
  refine J_newarr hX dX8_init_15 rfl ac_int lay_5 (Or.inl ⟨rfl, rfl⟩) (by decide) (by decide) (by decide) (rfree_ne (by decide +kernel)) (hz 5 (by decide)) (by simp) (by simp) (by decide) (by (try simp only [bump]); omega) (by (try simp only [bump]); omega) (fun q2 hX => ?_)
  have hag := Ag_up (q := q2) hag (by decide : 4 ≤ 5) (by decide)
  refine J_putRF (rL lr4) hX hin dX8_init_17 pf_RX8_15 (by decide) lo_3 rfl (fun _ => rfl) (fun _ => rfl) rL_new rL_old ?_
  refine J_aload_n hX dX8_init_20 rfl 0 rfl ?_
  refine J_bipush hX (30 : Int32) dX8_init_21 (by decide) ?_
  refine J_newarr hX dX8_init_23 rfl ac_int lay_6 (Or.inl ⟨rfl, rfl⟩) (by decide) (by decide) (by decide) (rfree_ne (by decide +kernel)) (hz 6 (by decide)) (by simp) (by simp) (by decide) (by (try simp only [bump]); omega) (by (try simp only [bump]); omega) (fun q3 hX => ?_)
  have hag := Ag_up (q := q3) hag (by decide : 4 ≤ 6) (by decide)
  refine J_putRF (rL lr5) hX hin dX8_init_25 pf_RX8_18 (by decide) lo_3 rfl (fun _ => rfl) (fun _ => rfl) rL_new rL_old ?_
  refine J_aload_n hX dX8_init_28 rfl 0 rfl ?_
  refine J_new hX dX8_init_29 nw_RX8_21 lay_7 (by decide) (rfree_none (by decide +kernel)) (rfree_ne (by decide +kernel)) (hz 7 (by decide)) (by simp) (by simp) (by decide) (by (try simp only [bump]); omega) (by (try simp only [bump]); omega) (fun q4 hX => ?_)
  have hag := Ag_up (q := q4) hag (by decide : 4 ≤ 7) (by decide)
  refine J_dup hX dX8_init_32 rfl ?_
  refine J_callIN (As := []) (st := [.ref 7, .ref 3]) hX dX8_init_33 ci_RX8_23 (by omega) (in_X3_init_7 (fun k hk => hz k (Nat.le_trans (by decide) hk))) rfl rfl (Nat.le_of_ble_eq_true rfl) (by (try simp only [bump]); omega) (by (try simp only [bump]); omega) (by simp) (by simp) (fun q5 hag2 hX => ?_)
  have hag := Ag_tr hag (by decide : 4 ≤ 8) hag2
  refine J_putRF (rL lr8) hX hin dX8_init_36 pf_RX8_24 (by decide) lo_3 rfl (fun _ => rfl) (fun _ => rfl) rL_new rL_old ?_
  exact J_returnN hX dX8_init_39 hQ (by (try simp only [bump]); omega) (by (try simp only [bump]); omega) hr hl hag)
def lr9 : List (Nat × Nat × Nat) := (0, 1, 3) :: lr8
def lr10 : List (Nat × Nat × Nat) := (10, 3, 11) :: lr9
def lr11 : List (Nat × Nat × Nat) := (10, 4, 12) :: lr10
def lr12 : List (Nat × Nat × Nat) := (10, 5, 13) :: lr11
def lr13 : List (Nat × Nat × Nat) := (14, 0, 15) :: lr12
def lr14 : List (Nat × Nat × Nat) := (14, 2, 16) :: lr13
theorem in_X3_init_14 {G : GG} {l : Launch} {ρ : Nat → Nat} {m : Mm} (hz : ∀ k, 15 ≤ k → zeroAt m k) : CN G l yX3_init cX3_init 1 1 2 1024 ρ 15 (rL lr12) [.ref 14] m 17 (rL lr14) m := cn_of_J (by decide) rfl rfl (Nat.le_of_ble_eq_true rfl) (fun X hX hR e2 e3 e4 hQ hr hl hin => by
  have hRc : X.1.2.2.2.1.cells = 2 := by rw [hR]; rfl
  have hRs : X.1.2.2.2.1.slots = 1024 := by rw [hR]; rfl
  have hag : Ag 15 ρ ρ := Ag_rf
  show J X G ρ 15 1 0 [(0, .ref 14)] [] (rL lr12) m
  refine J_aload_n hX dX3_init_0 rfl 0 rfl ?_
  refine J_objinit hX dX3_init_1 (by omega) oi_RX3_3 (Nat.le_of_ble_eq_true rfl) ?_
  refine J_aload_n hX dX3_init_4 rfl 0 rfl ?_
  refine J_sipush hX (1000 : Int32) dX3_init_5 (by decide) ?_
  refine J_newarr hX dX3_init_8 rfl ac_int lay_15 (Or.inl ⟨rfl, rfl⟩) (by decide) (by decide) (by decide) (rfree_ne (by decide +kernel)) (hz 15 (by decide)) (by simp) (by simp) (by decide) (by (try simp only [bump]); omega) (by (try simp only [bump]); omega) (fun q1 hX => ?_)
  have hag := Ag_up (q := q1) hag (by decide : 15 ≤ 15) (by decide)
  refine J_putRF (rL lr13) hX hin dX3_init_10 pf_RX3_9 (by decide) lo_14 rfl (fun _ => rfl) (fun _ => rfl) rL_new rL_old ?_
  refine J_aload_n hX dX3_init_13 rfl 0 rfl ?_
  refine J_bipush hX (24 : Int32) dX3_init_14 (by decide) ?_
  refine J_newarr hX dX3_init_16 rfl ac_int lay_16 (Or.inl ⟨rfl, rfl⟩) (by decide) (by decide) (by decide) (rfree_ne (by decide +kernel)) (hz 16 (by decide)) (by simp) (by simp) (by decide) (by (try simp only [bump]); omega) (by (try simp only [bump]); omega) (fun q2 hX => ?_)
  have hag := Ag_up (q := q2) hag (by decide : 15 ≤ 16) (by decide)
  refine J_putRF (rL lr14) hX hin dX3_init_18 pf_RX3_15 (by decide) lo_14 rfl (fun _ => rfl) (fun _ => rfl) rL_new rL_old ?_
  exact J_returnN hX dX3_init_21 hQ (by (try simp only [bump]); omega) (by (try simp only [bump]); omega) hr hl hag)
def lr15 : List (Nat × Nat × Nat) := (10, 6, 14) :: lr14
theorem in_X8_init_10 {G : GG} {l : Launch} {ρ : Nat → Nat} {m : Mm} (hz : ∀ k, 11 ≤ k → zeroAt m k) : CN G l yX8_init cX8_init 1 2 6 1070 ρ 11 (rL lr9) [.ref 10] m 17 (rL lr15) m := cn_of_J (by decide) rfl rfl (Nat.le_of_ble_eq_true rfl) (fun X hX hR e2 e3 e4 hQ hr hl hin => by
  have hRc : X.1.2.2.2.1.cells = 6 := by rw [hR]; rfl
  have hRs : X.1.2.2.2.1.slots = 1070 := by rw [hR]; rfl
  have hag : Ag 11 ρ ρ := Ag_rf
  show J X G ρ 11 1 0 [(0, .ref 10)] [] (rL lr9) m
  refine J_aload_n hX dX8_init_0 rfl 0 rfl ?_
  refine J_objinit hX dX8_init_1 (by omega) oi_RX8_3 (Nat.le_of_ble_eq_true rfl) ?_
  refine J_aload_n hX dX8_init_4 rfl 0 rfl ?_
  refine J_bipush hX (6 : Int32) dX8_init_5 (by decide) ?_
  refine J_newarr hX dX8_init_7 rfl ac_int lay_11 (Or.inl ⟨rfl, rfl⟩) (by decide) (by decide) (by decide) (rfree_ne (by decide +kernel)) (hz 11 (by decide)) (by simp) (by simp) (by decide) (by (try simp only [bump]); omega) (by (try simp only [bump]); omega) (fun q1 hX => ?_)
  have hag := Ag_up (q := q1) hag (by decide : 11 ≤ 11) (by decide)
  refine J_putRF (rL lr10) hX hin dX8_init_9 pf_RX8_9 (by decide) lo_10 rfl (fun _ => rfl) (fun _ => rfl) rL_new rL_old ?_
  refine J_aload_n hX dX8_init_12 rfl 0 rfl ?_
  refine J_bipush hX (6 : Int32) dX8_init_13 (by decide) ?_
  refine J_newarr hX dX8_init_15 rfl ac_int lay_12 (Or.inl ⟨rfl, rfl⟩) (by decide) (by decide) (by decide) (rfree_ne (by decide +kernel)) (hz 12 (by decide)) (by simp) (by simp) (by decide) (by (try simp only [bump]); omega) (by (try simp only [bump]); omega) (fun q2 hX => ?_)
  have hag := Ag_up (q := q2) hag (by decide : 11 ≤ 12) (by decide)
  refine J_putRF (rL lr11) hX hin dX8_init_17 pf_RX8_15 (by decide) lo_10 rfl (fun _ => rfl) (fun _ => rfl) rL_new rL_old ?_
  refine J_aload_n hX dX8_init_20 rfl 0 rfl ?_
  refine J_bipush hX (30 : Int32) dX8_init_21 (by decide) ?_
  refine J_newarr hX dX8_init_23 rfl ac_int lay_13 (Or.inl ⟨rfl, rfl⟩) (by decide) (by decide) (by decide) (rfree_ne (by decide +kernel)) (hz 13 (by decide)) (by simp) (by simp) (by decide) (by (try simp only [bump]); omega) (by (try simp only [bump]); omega) (fun q3 hX => ?_)
  have hag := Ag_up (q := q3) hag (by decide : 11 ≤ 13) (by decide)
  refine J_putRF (rL lr12) hX hin dX8_init_25 pf_RX8_18 (by decide) lo_10 rfl (fun _ => rfl) (fun _ => rfl) rL_new rL_old ?_
  refine J_aload_n hX dX8_init_28 rfl 0 rfl ?_
  refine J_new hX dX8_init_29 nw_RX8_21 lay_14 (by decide) (rfree_none (by decide +kernel)) (rfree_ne (by decide +kernel)) (hz 14 (by decide)) (by simp) (by simp) (by decide) (by (try simp only [bump]); omega) (by (try simp only [bump]); omega) (fun q4 hX => ?_)
  have hag := Ag_up (q := q4) hag (by decide : 11 ≤ 14) (by decide)
  refine J_dup hX dX8_init_32 rfl ?_
  refine J_callIN (As := []) (st := [.ref 14, .ref 10]) hX dX8_init_33 ci_RX8_23 (by omega) (in_X3_init_14 (fun k hk => hz k (Nat.le_trans (by decide) hk))) rfl rfl (Nat.le_of_ble_eq_true rfl) (by (try simp only [bump]); omega) (by (try simp only [bump]); omega) (by simp) (by simp) (fun q5 hag2 hX => ?_)
  have hag := Ag_tr hag (by decide : 11 ≤ 15) hag2
  refine J_putRF (rL lr15) hX hin dX8_init_36 pf_RX8_24 (by decide) lo_10 rfl (fun _ => rfl) (fun _ => rfl) rL_new rL_old ?_
  exact J_returnN hX dX8_init_39 hQ (by (try simp only [bump]); omega) (by (try simp only [bump]); omega) hr hl hag)
def lr16 : List (Nat × Nat × Nat) := (0, 2, 10) :: lr15
def lr17 : List (Nat × Nat × Nat) := (17, 0, 1) :: lr16
def lr18 : List (Nat × Nat × Nat) := (17, 1, 10) :: lr17
theorem in_X0_init_17 {G : GG} {l : Launch} {ρ : Nat → Nat} {m : Mm} (hz : ∀ k, 18 ≤ k → zeroAt m k) : CN G l yX0_init cX0_init 3 1 0 0 ρ 18 (rL lr16) [.ref 17, .ref 1, .ref 10] m 18 (rL lr18) m := cn_of_J (by decide) rfl rfl (Nat.le_of_ble_eq_true rfl) (fun X hX hR e2 e3 e4 hQ hr hl hin => by
  have hRc : X.1.2.2.2.1.cells = 0 := by rw [hR]; rfl
  have hRs : X.1.2.2.2.1.slots = 0 := by rw [hR]; rfl
  have hag : Ag 18 ρ ρ := Ag_rf
  show J X G ρ 18 3 0 [(0, .ref 17), (1, .ref 1), (2, .ref 10)] [] (rL lr16) m
  refine J_aload_n hX dX0_init_0 rfl 0 rfl ?_
  refine J_objinit hX dX0_init_1 (by omega) oi_RX0_3 (Nat.le_of_ble_eq_true rfl) ?_
  refine J_aload_n hX dX0_init_4 rfl 0 rfl ?_
  refine J_aload_n hX dX0_init_5 rfl 1 rfl ?_
  refine J_putRF (rL lr17) hX hin dX0_init_6 pf_RX0_9 (by decide) lo_17 rfl (fun _ => rfl) (fun _ => rfl) rL_new rL_old ?_
  refine J_aload_n hX dX0_init_9 rfl 0 rfl ?_
  refine J_aload_n hX dX0_init_10 rfl 2 rfl ?_
  refine J_putR (rL lr18) hX dX0_init_11 pl_RX0_15 (by decide) lo_17 rfl rL_new rL_old ?_
  exact J_returnN hX dX0_init_14 hQ (by (try simp only [bump]); omega) (by (try simp only [bump]); omega) hr hl hag)
def lr19 : List (Nat × Nat × Nat) := (0, 3, 17) :: lr18
def lr20 : List (Nat × Nat × Nat) := (18, 1, 19) :: lr19
def lr21 : List (Nat × Nat × Nat) := (18, 2, 20) :: lr20
def lr22 : List (Nat × Nat × Nat) := (18, 3, 21) :: lr21
def lr23 : List (Nat × Nat × Nat) := (18, 0, 1) :: lr22
theorem in_X9_init_18 {G : GG} {l : Launch} {ρ : Nat → Nat} {m : Mm} (hz : ∀ k, 19 ≤ k → zeroAt m k) : CN G l yX9_init cX9_init 2 1 3 120 ρ 19 (rL lr19) [.ref 18, .ref 1] m 22 (rL lr23) m := cn_of_J (by decide) rfl rfl (Nat.le_of_ble_eq_true rfl) (fun X hX hR e2 e3 e4 hQ hr hl hin => by
  have hRc : X.1.2.2.2.1.cells = 3 := by rw [hR]; rfl
  have hRs : X.1.2.2.2.1.slots = 120 := by rw [hR]; rfl
  have hag : Ag 19 ρ ρ := Ag_rf
  show J X G ρ 19 2 0 [(0, .ref 18), (1, .ref 1)] [] (rL lr19) m
  refine J_aload_n hX dX9_init_0 rfl 0 rfl ?_
  refine J_objinit hX dX9_init_1 (by omega) oi_RX9_3 (Nat.le_of_ble_eq_true rfl) ?_
  refine J_aload_n hX dX9_init_4 rfl 0 rfl ?_
  refine J_bipush hX (40 : Int32) dX9_init_5 (by decide) ?_
  refine J_newarr hX dX9_init_7 rfl ac_int lay_19 (Or.inl ⟨rfl, rfl⟩) (by decide) (by decide) (by decide) (rfree_ne (by decide +kernel)) (hz 19 (by decide)) (by simp) (by simp) (by decide) (by (try simp only [bump]); omega) (by (try simp only [bump]); omega) (fun q1 hX => ?_)
  have hag := Ag_up (q := q1) hag (by decide : 19 ≤ 19) (by decide)
  refine J_putRF (rL lr20) hX hin dX9_init_9 pf_RX9_9 (by decide) lo_18 rfl (fun _ => rfl) (fun _ => rfl) rL_new rL_old ?_
  refine J_aload_n hX dX9_init_12 rfl 0 rfl ?_
  refine J_bipush hX (40 : Int32) dX9_init_13 (by decide) ?_
  refine J_newarr hX dX9_init_15 rfl ac_int lay_20 (Or.inl ⟨rfl, rfl⟩) (by decide) (by decide) (by decide) (rfree_ne (by decide +kernel)) (hz 20 (by decide)) (by simp) (by simp) (by decide) (by (try simp only [bump]); omega) (by (try simp only [bump]); omega) (fun q2 hX => ?_)
  have hag := Ag_up (q := q2) hag (by decide : 19 ≤ 20) (by decide)
  refine J_putRF (rL lr21) hX hin dX9_init_17 pf_RX9_15 (by decide) lo_18 rfl (fun _ => rfl) (fun _ => rfl) rL_new rL_old ?_
  refine J_aload_n hX dX9_init_20 rfl 0 rfl ?_
  refine J_bipush hX (40 : Int32) dX9_init_21 (by decide) ?_
  refine J_newarr hX dX9_init_23 rfl ac_int lay_21 (Or.inl ⟨rfl, rfl⟩) (by decide) (by decide) (by decide) (rfree_ne (by decide +kernel)) (hz 21 (by decide)) (by simp) (by simp) (by decide) (by (try simp only [bump]); omega) (by (try simp only [bump]); omega) (fun q3 hX => ?_)
  have hag := Ag_up (q := q3) hag (by decide : 19 ≤ 21) (by decide)
  refine J_putRF (rL lr22) hX hin dX9_init_25 pf_RX9_18 (by decide) lo_18 rfl (fun _ => rfl) (fun _ => rfl) rL_new rL_old ?_
  refine J_aload_n hX dX9_init_28 rfl 0 rfl ?_
  refine J_aload_n hX dX9_init_29 rfl 1 rfl ?_
  refine J_putRF (rL lr23) hX hin dX9_init_30 pf_RX9_21 (by decide) lo_18 rfl (fun _ => rfl) (fun _ => rfl) rL_new rL_old ?_
  exact J_returnN hX dX9_init_33 hQ (by (try simp only [bump]); omega) (by (try simp only [bump]); omega) hr hl hag)
def lr24 : List (Nat × Nat × Nat) := (0, 4, 18) :: lr23
def lr25 : List (Nat × Nat × Nat) := (22, 1, 23) :: lr24
def lr26 : List (Nat × Nat × Nat) := (22, 2, 24) :: lr25
def lr27 : List (Nat × Nat × Nat) := (22, 3, 25) :: lr26
def lr28 : List (Nat × Nat × Nat) := (22, 0, 1) :: lr27
theorem in_X9_init_22 {G : GG} {l : Launch} {ρ : Nat → Nat} {m : Mm} (hz : ∀ k, 23 ≤ k → zeroAt m k) : CN G l yX9_init cX9_init 2 1 3 120 ρ 23 (rL lr24) [.ref 22, .ref 1] m 26 (rL lr28) m := cn_of_J (by decide) rfl rfl (Nat.le_of_ble_eq_true rfl) (fun X hX hR e2 e3 e4 hQ hr hl hin => by
  have hRc : X.1.2.2.2.1.cells = 3 := by rw [hR]; rfl
  have hRs : X.1.2.2.2.1.slots = 120 := by rw [hR]; rfl
  have hag : Ag 23 ρ ρ := Ag_rf
  show J X G ρ 23 2 0 [(0, .ref 22), (1, .ref 1)] [] (rL lr24) m
  refine J_aload_n hX dX9_init_0 rfl 0 rfl ?_
  refine J_objinit hX dX9_init_1 (by omega) oi_RX9_3 (Nat.le_of_ble_eq_true rfl) ?_
  refine J_aload_n hX dX9_init_4 rfl 0 rfl ?_
  refine J_bipush hX (40 : Int32) dX9_init_5 (by decide) ?_
  refine J_newarr hX dX9_init_7 rfl ac_int lay_23 (Or.inl ⟨rfl, rfl⟩) (by decide) (by decide) (by decide) (rfree_ne (by decide +kernel)) (hz 23 (by decide)) (by simp) (by simp) (by decide) (by (try simp only [bump]); omega) (by (try simp only [bump]); omega) (fun q1 hX => ?_)
  have hag := Ag_up (q := q1) hag (by decide : 23 ≤ 23) (by decide)
  refine J_putRF (rL lr25) hX hin dX9_init_9 pf_RX9_9 (by decide) lo_22 rfl (fun _ => rfl) (fun _ => rfl) rL_new rL_old ?_
  refine J_aload_n hX dX9_init_12 rfl 0 rfl ?_
  refine J_bipush hX (40 : Int32) dX9_init_13 (by decide) ?_
  refine J_newarr hX dX9_init_15 rfl ac_int lay_24 (Or.inl ⟨rfl, rfl⟩) (by decide) (by decide) (by decide) (rfree_ne (by decide +kernel)) (hz 24 (by decide)) (by simp) (by simp) (by decide) (by (try simp only [bump]); omega) (by (try simp only [bump]); omega) (fun q2 hX => ?_)
  have hag := Ag_up (q := q2) hag (by decide : 23 ≤ 24) (by decide)
  refine J_putRF (rL lr26) hX hin dX9_init_17 pf_RX9_15 (by decide) lo_22 rfl (fun _ => rfl) (fun _ => rfl) rL_new rL_old ?_
  refine J_aload_n hX dX9_init_20 rfl 0 rfl ?_
  refine J_bipush hX (40 : Int32) dX9_init_21 (by decide) ?_
  refine J_newarr hX dX9_init_23 rfl ac_int lay_25 (Or.inl ⟨rfl, rfl⟩) (by decide) (by decide) (by decide) (rfree_ne (by decide +kernel)) (hz 25 (by decide)) (by simp) (by simp) (by decide) (by (try simp only [bump]); omega) (by (try simp only [bump]); omega) (fun q3 hX => ?_)
  have hag := Ag_up (q := q3) hag (by decide : 23 ≤ 25) (by decide)
  refine J_putRF (rL lr27) hX hin dX9_init_25 pf_RX9_18 (by decide) lo_22 rfl (fun _ => rfl) (fun _ => rfl) rL_new rL_old ?_
  refine J_aload_n hX dX9_init_28 rfl 0 rfl ?_
  refine J_aload_n hX dX9_init_29 rfl 1 rfl ?_
  refine J_putRF (rL lr28) hX hin dX9_init_30 pf_RX9_21 (by decide) lo_22 rfl (fun _ => rfl) (fun _ => rfl) rL_new rL_old ?_
  exact J_returnN hX dX9_init_33 hQ (by (try simp only [bump]); omega) (by (try simp only [bump]); omega) hr hl hag)
def lr29 : List (Nat × Nat × Nat) := (0, 5, 22) :: lr28
def lr30 : List (Nat × Nat × Nat) := (26, 3, 27) :: lr29
def lr31 : List (Nat × Nat × Nat) := (26, 4, 28) :: lr30
def lr32 : List (Nat × Nat × Nat) := (26, 5, 29) :: lr31
def lr33 : List (Nat × Nat × Nat) := (26, 6, 30) :: lr32
def lr34 : List (Nat × Nat × Nat) := (26, 7, 31) :: lr33
def lr35 : List (Nat × Nat × Nat) := (26, 8, 32) :: lr34
def lr36 : List (Nat × Nat × Nat) := (26, 9, 33) :: lr35
def lr37 : List (Nat × Nat × Nat) := (26, 10, 34) :: lr36
def lr38 : List (Nat × Nat × Nat) := (26, 11, 35) :: lr37
def lr39 : List (Nat × Nat × Nat) := (26, 12, 36) :: lr38
def lr40 : List (Nat × Nat × Nat) := (26, 13, 37) :: lr39
def lr41 : List (Nat × Nat × Nat) := (26, 14, 38) :: lr40
def lr42 : List (Nat × Nat × Nat) := (26, 15, 39) :: lr41
theorem in_X4_init_26 {G : GG} {l : Launch} {ρ : Nat → Nat} {m : Mm} (hz : ∀ k, 27 ≤ k → zeroAt m k) : CN G l yX4_init cX4_init 1 1 13 1039 ρ 27 (rL lr29) [.ref 26] m 40 (rL lr42) m := cn_of_J (by decide) rfl rfl (Nat.le_of_ble_eq_true rfl) (fun X hX hR e2 e3 e4 hQ hr hl hin => by
  have hRc : X.1.2.2.2.1.cells = 13 := by rw [hR]; rfl
  have hRs : X.1.2.2.2.1.slots = 1039 := by rw [hR]; rfl
  have hag : Ag 27 ρ ρ := Ag_rf
  show J X G ρ 27 1 0 [(0, .ref 26)] [] (rL lr29) m
  refine J_aload_n hX dX4_init_0 rfl 0 rfl ?_
  refine J_objinit hX dX4_init_1 (by omega) oi_RX4_3 (Nat.le_of_ble_eq_true rfl) ?_
  refine J_aload_n hX dX4_init_4 rfl 0 rfl ?_
  refine J_bipush hX (40 : Int32) dX4_init_5 (by decide) ?_
  refine J_newarr hX dX4_init_7 rfl ac_int lay_27 (Or.inl ⟨rfl, rfl⟩) (by decide) (by decide) (by decide) (rfree_ne (by decide +kernel)) (hz 27 (by decide)) (by simp) (by simp) (by decide) (by (try simp only [bump]); omega) (by (try simp only [bump]); omega) (fun q1 hX => ?_)
  have hag := Ag_up (q := q1) hag (by decide : 27 ≤ 27) (by decide)
  refine J_putRF (rL lr30) hX hin dX4_init_9 pf_RX4_9 (by decide) lo_26 rfl (fun _ => rfl) (fun _ => rfl) rL_new rL_old ?_
  refine J_aload_n hX dX4_init_12 rfl 0 rfl ?_
  refine J_bipush hX (40 : Int32) dX4_init_13 (by decide) ?_
  refine J_newarr hX dX4_init_15 rfl ac_int lay_28 (Or.inl ⟨rfl, rfl⟩) (by decide) (by decide) (by decide) (rfree_ne (by decide +kernel)) (hz 28 (by decide)) (by simp) (by simp) (by decide) (by (try simp only [bump]); omega) (by (try simp only [bump]); omega) (fun q2 hX => ?_)
  have hag := Ag_up (q := q2) hag (by decide : 27 ≤ 28) (by decide)
  refine J_putRF (rL lr31) hX hin dX4_init_17 pf_RX4_15 (by decide) lo_26 rfl (fun _ => rfl) (fun _ => rfl) rL_new rL_old ?_
  refine J_aload_n hX dX4_init_20 rfl 0 rfl ?_
  refine J_bipush hX (40 : Int32) dX4_init_21 (by decide) ?_
  refine J_newarr hX dX4_init_23 rfl ac_int lay_29 (Or.inl ⟨rfl, rfl⟩) (by decide) (by decide) (by decide) (rfree_ne (by decide +kernel)) (hz 29 (by decide)) (by simp) (by simp) (by decide) (by (try simp only [bump]); omega) (by (try simp only [bump]); omega) (fun q3 hX => ?_)
  have hag := Ag_up (q := q3) hag (by decide : 27 ≤ 29) (by decide)
  refine J_putRF (rL lr32) hX hin dX4_init_25 pf_RX4_18 (by decide) lo_26 rfl (fun _ => rfl) (fun _ => rfl) rL_new rL_old ?_
  refine J_aload_n hX dX4_init_28 rfl 0 rfl ?_
  refine J_bipush hX (40 : Int32) dX4_init_29 (by decide) ?_
  refine J_newarr hX dX4_init_31 rfl ac_int lay_30 (Or.inl ⟨rfl, rfl⟩) (by decide) (by decide) (by decide) (rfree_ne (by decide +kernel)) (hz 30 (by decide)) (by simp) (by simp) (by decide) (by (try simp only [bump]); omega) (by (try simp only [bump]); omega) (fun q4 hX => ?_)
  have hag := Ag_up (q := q4) hag (by decide : 27 ≤ 30) (by decide)
  refine J_putRF (rL lr33) hX hin dX4_init_33 pf_RX4_21 (by decide) lo_26 rfl (fun _ => rfl) (fun _ => rfl) rL_new rL_old ?_
  refine J_aload_n hX dX4_init_36 rfl 0 rfl ?_
  refine J_bipush hX (40 : Int32) dX4_init_37 (by decide) ?_
  refine J_newarr hX dX4_init_39 rfl ac_int lay_31 (Or.inl ⟨rfl, rfl⟩) (by decide) (by decide) (by decide) (rfree_ne (by decide +kernel)) (hz 31 (by decide)) (by simp) (by simp) (by decide) (by (try simp only [bump]); omega) (by (try simp only [bump]); omega) (fun q5 hX => ?_)
  have hag := Ag_up (q := q5) hag (by decide : 27 ≤ 31) (by decide)
  refine J_putRF (rL lr34) hX hin dX4_init_41 pf_RX4_24 (by decide) lo_26 rfl (fun _ => rfl) (fun _ => rfl) rL_new rL_old ?_
  refine J_aload_n hX dX4_init_44 rfl 0 rfl ?_
  refine J_bipush hX (40 : Int32) dX4_init_45 (by decide) ?_
  refine J_newarr hX dX4_init_47 rfl ac_int lay_32 (Or.inl ⟨rfl, rfl⟩) (by decide) (by decide) (by decide) (rfree_ne (by decide +kernel)) (hz 32 (by decide)) (by simp) (by simp) (by decide) (by (try simp only [bump]); omega) (by (try simp only [bump]); omega) (fun q6 hX => ?_)
  have hag := Ag_up (q := q6) hag (by decide : 27 ≤ 32) (by decide)
  refine J_putRF (rL lr35) hX hin dX4_init_49 pf_RX4_27 (by decide) lo_26 rfl (fun _ => rfl) (fun _ => rfl) rL_new rL_old ?_
  refine J_aload_n hX dX4_init_52 rfl 0 rfl ?_
  refine J_sipush hX (200 : Int32) dX4_init_53 (by decide) ?_
  refine J_newarr hX dX4_init_56 rfl ac_int lay_33 (Or.inl ⟨rfl, rfl⟩) (by decide) (by decide) (by decide) (rfree_ne (by decide +kernel)) (hz 33 (by decide)) (by simp) (by simp) (by decide) (by (try simp only [bump]); omega) (by (try simp only [bump]); omega) (fun q7 hX => ?_)
  have hag := Ag_up (q := q7) hag (by decide : 27 ≤ 33) (by decide)
  refine J_putRF (rL lr36) hX hin dX4_init_58 pf_RX4_30 (by decide) lo_26 rfl (fun _ => rfl) (fun _ => rfl) rL_new rL_old ?_
  refine J_aload_n hX dX4_init_61 rfl 0 rfl ?_
  refine J_sipush hX (200 : Int32) dX4_init_62 (by decide) ?_
  refine J_newarr hX dX4_init_65 rfl ac_int lay_34 (Or.inl ⟨rfl, rfl⟩) (by decide) (by decide) (by decide) (rfree_ne (by decide +kernel)) (hz 34 (by decide)) (by simp) (by simp) (by decide) (by (try simp only [bump]); omega) (by (try simp only [bump]); omega) (fun q8 hX => ?_)
  have hag := Ag_up (q := q8) hag (by decide : 27 ≤ 34) (by decide)
  refine J_putRF (rL lr37) hX hin dX4_init_67 pf_RX4_33 (by decide) lo_26 rfl (fun _ => rfl) (fun _ => rfl) rL_new rL_old ?_
  refine J_aload_n hX dX4_init_70 rfl 0 rfl ?_
  refine J_sipush hX (200 : Int32) dX4_init_71 (by decide) ?_
  refine J_newarr hX dX4_init_74 rfl ac_int lay_35 (Or.inl ⟨rfl, rfl⟩) (by decide) (by decide) (by decide) (rfree_ne (by decide +kernel)) (hz 35 (by decide)) (by simp) (by simp) (by decide) (by (try simp only [bump]); omega) (by (try simp only [bump]); omega) (fun q9 hX => ?_)
  have hag := Ag_up (q := q9) hag (by decide : 27 ≤ 35) (by decide)
  refine J_putRF (rL lr38) hX hin dX4_init_76 pf_RX4_36 (by decide) lo_26 rfl (fun _ => rfl) (fun _ => rfl) rL_new rL_old ?_
  refine J_aload_n hX dX4_init_79 rfl 0 rfl ?_
  refine J_sipush hX (160 : Int32) dX4_init_80 (by decide) ?_
  refine J_newarr hX dX4_init_83 rfl ac_int lay_36 (Or.inl ⟨rfl, rfl⟩) (by decide) (by decide) (by decide) (rfree_ne (by decide +kernel)) (hz 36 (by decide)) (by simp) (by simp) (by decide) (by (try simp only [bump]); omega) (by (try simp only [bump]); omega) (fun q10 hX => ?_)
  have hag := Ag_up (q := q10) hag (by decide : 27 ≤ 36) (by decide)
  refine J_putRF (rL lr39) hX hin dX4_init_85 pf_RX4_39 (by decide) lo_26 rfl (fun _ => rfl) (fun _ => rfl) rL_new rL_old ?_
  refine J_aload_n hX dX4_init_88 rfl 0 rfl ?_
  refine J_bipush hX (13 : Int32) dX4_init_89 (by decide) ?_
  refine J_newarr hX dX4_init_91 rfl ac_int lay_37 (Or.inl ⟨rfl, rfl⟩) (by decide) (by decide) (by decide) (rfree_ne (by decide +kernel)) (hz 37 (by decide)) (by simp) (by simp) (by decide) (by (try simp only [bump]); omega) (by (try simp only [bump]); omega) (fun q11 hX => ?_)
  have hag := Ag_up (q := q11) hag (by decide : 27 ≤ 37) (by decide)
  refine J_putRF (rL lr40) hX hin dX4_init_93 pf_RX4_42 (by decide) lo_26 rfl (fun _ => rfl) (fun _ => rfl) rL_new rL_old ?_
  refine J_aload_n hX dX4_init_96 rfl 0 rfl ?_
  refine J_bipush hX (13 : Int32) dX4_init_97 (by decide) ?_
  refine J_newarr hX dX4_init_99 rfl ac_int lay_38 (Or.inl ⟨rfl, rfl⟩) (by decide) (by decide) (by decide) (rfree_ne (by decide +kernel)) (hz 38 (by decide)) (by simp) (by simp) (by decide) (by (try simp only [bump]); omega) (by (try simp only [bump]); omega) (fun q12 hX => ?_)
  have hag := Ag_up (q := q12) hag (by decide : 27 ≤ 38) (by decide)
  refine J_putRF (rL lr41) hX hin dX4_init_101 pf_RX4_45 (by decide) lo_26 rfl (fun _ => rfl) (fun _ => rfl) rL_new rL_old ?_
  refine J_aload_n hX dX4_init_104 rfl 0 rfl ?_
  refine J_bipush hX (13 : Int32) dX4_init_105 (by decide) ?_
  refine J_newarr hX dX4_init_107 rfl ac_int lay_39 (Or.inl ⟨rfl, rfl⟩) (by decide) (by decide) (by decide) (rfree_ne (by decide +kernel)) (hz 39 (by decide)) (by simp) (by simp) (by decide) (by (try simp only [bump]); omega) (by (try simp only [bump]); omega) (fun q13 hX => ?_)
  have hag := Ag_up (q := q13) hag (by decide : 27 ≤ 39) (by decide)
  refine J_putRF (rL lr42) hX hin dX4_init_109 pf_RX4_48 (by decide) lo_26 rfl (fun _ => rfl) (fun _ => rfl) rL_new rL_old ?_
  exact J_returnN hX dX4_init_112 hQ (by (try simp only [bump]); omega) (by (try simp only [bump]); omega) hr hl hag)
def lr43 : List (Nat × Nat × Nat) := (0, 6, 26) :: lr42
def lr44 : List (Nat × Nat × Nat) := (40, 3, 41) :: lr43
def lr45 : List (Nat × Nat × Nat) := (40, 4, 42) :: lr44
def lr46 : List (Nat × Nat × Nat) := (40, 5, 43) :: lr45
def lr47 : List (Nat × Nat × Nat) := (40, 6, 44) :: lr46
def lr48 : List (Nat × Nat × Nat) := (40, 7, 45) :: lr47
def lr49 : List (Nat × Nat × Nat) := (40, 8, 46) :: lr48
def lr50 : List (Nat × Nat × Nat) := (40, 9, 47) :: lr49
def lr51 : List (Nat × Nat × Nat) := (40, 10, 48) :: lr50
def lr52 : List (Nat × Nat × Nat) := (40, 11, 49) :: lr51
def lr53 : List (Nat × Nat × Nat) := (40, 12, 50) :: lr52
def lr54 : List (Nat × Nat × Nat) := (40, 13, 51) :: lr53
def lr55 : List (Nat × Nat × Nat) := (40, 14, 52) :: lr54
def lr56 : List (Nat × Nat × Nat) := (40, 15, 53) :: lr55
theorem in_X4_init_40 {G : GG} {l : Launch} {ρ : Nat → Nat} {m : Mm} (hz : ∀ k, 41 ≤ k → zeroAt m k) : CN G l yX4_init cX4_init 1 1 13 1039 ρ 41 (rL lr43) [.ref 40] m 54 (rL lr56) m := cn_of_J (by decide) rfl rfl (Nat.le_of_ble_eq_true rfl) (fun X hX hR e2 e3 e4 hQ hr hl hin => by
  have hRc : X.1.2.2.2.1.cells = 13 := by rw [hR]; rfl
  have hRs : X.1.2.2.2.1.slots = 1039 := by rw [hR]; rfl
  have hag : Ag 41 ρ ρ := Ag_rf
  show J X G ρ 41 1 0 [(0, .ref 40)] [] (rL lr43) m
  refine J_aload_n hX dX4_init_0 rfl 0 rfl ?_
  refine J_objinit hX dX4_init_1 (by omega) oi_RX4_3 (Nat.le_of_ble_eq_true rfl) ?_
  refine J_aload_n hX dX4_init_4 rfl 0 rfl ?_
  refine J_bipush hX (40 : Int32) dX4_init_5 (by decide) ?_
  refine J_newarr hX dX4_init_7 rfl ac_int lay_41 (Or.inl ⟨rfl, rfl⟩) (by decide) (by decide) (by decide) (rfree_ne (by decide +kernel)) (hz 41 (by decide)) (by simp) (by simp) (by decide) (by (try simp only [bump]); omega) (by (try simp only [bump]); omega) (fun q1 hX => ?_)
  have hag := Ag_up (q := q1) hag (by decide : 41 ≤ 41) (by decide)
  refine J_putRF (rL lr44) hX hin dX4_init_9 pf_RX4_9 (by decide) lo_40 rfl (fun _ => rfl) (fun _ => rfl) rL_new rL_old ?_
  refine J_aload_n hX dX4_init_12 rfl 0 rfl ?_
  refine J_bipush hX (40 : Int32) dX4_init_13 (by decide) ?_
  refine J_newarr hX dX4_init_15 rfl ac_int lay_42 (Or.inl ⟨rfl, rfl⟩) (by decide) (by decide) (by decide) (rfree_ne (by decide +kernel)) (hz 42 (by decide)) (by simp) (by simp) (by decide) (by (try simp only [bump]); omega) (by (try simp only [bump]); omega) (fun q2 hX => ?_)
  have hag := Ag_up (q := q2) hag (by decide : 41 ≤ 42) (by decide)
  refine J_putRF (rL lr45) hX hin dX4_init_17 pf_RX4_15 (by decide) lo_40 rfl (fun _ => rfl) (fun _ => rfl) rL_new rL_old ?_
  refine J_aload_n hX dX4_init_20 rfl 0 rfl ?_
  refine J_bipush hX (40 : Int32) dX4_init_21 (by decide) ?_
  refine J_newarr hX dX4_init_23 rfl ac_int lay_43 (Or.inl ⟨rfl, rfl⟩) (by decide) (by decide) (by decide) (rfree_ne (by decide +kernel)) (hz 43 (by decide)) (by simp) (by simp) (by decide) (by (try simp only [bump]); omega) (by (try simp only [bump]); omega) (fun q3 hX => ?_)
  have hag := Ag_up (q := q3) hag (by decide : 41 ≤ 43) (by decide)
  refine J_putRF (rL lr46) hX hin dX4_init_25 pf_RX4_18 (by decide) lo_40 rfl (fun _ => rfl) (fun _ => rfl) rL_new rL_old ?_
  refine J_aload_n hX dX4_init_28 rfl 0 rfl ?_
  refine J_bipush hX (40 : Int32) dX4_init_29 (by decide) ?_
  refine J_newarr hX dX4_init_31 rfl ac_int lay_44 (Or.inl ⟨rfl, rfl⟩) (by decide) (by decide) (by decide) (rfree_ne (by decide +kernel)) (hz 44 (by decide)) (by simp) (by simp) (by decide) (by (try simp only [bump]); omega) (by (try simp only [bump]); omega) (fun q4 hX => ?_)
  have hag := Ag_up (q := q4) hag (by decide : 41 ≤ 44) (by decide)
  refine J_putRF (rL lr47) hX hin dX4_init_33 pf_RX4_21 (by decide) lo_40 rfl (fun _ => rfl) (fun _ => rfl) rL_new rL_old ?_
  refine J_aload_n hX dX4_init_36 rfl 0 rfl ?_
  refine J_bipush hX (40 : Int32) dX4_init_37 (by decide) ?_
  refine J_newarr hX dX4_init_39 rfl ac_int lay_45 (Or.inl ⟨rfl, rfl⟩) (by decide) (by decide) (by decide) (rfree_ne (by decide +kernel)) (hz 45 (by decide)) (by simp) (by simp) (by decide) (by (try simp only [bump]); omega) (by (try simp only [bump]); omega) (fun q5 hX => ?_)
  have hag := Ag_up (q := q5) hag (by decide : 41 ≤ 45) (by decide)
  refine J_putRF (rL lr48) hX hin dX4_init_41 pf_RX4_24 (by decide) lo_40 rfl (fun _ => rfl) (fun _ => rfl) rL_new rL_old ?_
  refine J_aload_n hX dX4_init_44 rfl 0 rfl ?_
  refine J_bipush hX (40 : Int32) dX4_init_45 (by decide) ?_
  refine J_newarr hX dX4_init_47 rfl ac_int lay_46 (Or.inl ⟨rfl, rfl⟩) (by decide) (by decide) (by decide) (rfree_ne (by decide +kernel)) (hz 46 (by decide)) (by simp) (by simp) (by decide) (by (try simp only [bump]); omega) (by (try simp only [bump]); omega) (fun q6 hX => ?_)
  have hag := Ag_up (q := q6) hag (by decide : 41 ≤ 46) (by decide)
  refine J_putRF (rL lr49) hX hin dX4_init_49 pf_RX4_27 (by decide) lo_40 rfl (fun _ => rfl) (fun _ => rfl) rL_new rL_old ?_
  refine J_aload_n hX dX4_init_52 rfl 0 rfl ?_
  refine J_sipush hX (200 : Int32) dX4_init_53 (by decide) ?_
  refine J_newarr hX dX4_init_56 rfl ac_int lay_47 (Or.inl ⟨rfl, rfl⟩) (by decide) (by decide) (by decide) (rfree_ne (by decide +kernel)) (hz 47 (by decide)) (by simp) (by simp) (by decide) (by (try simp only [bump]); omega) (by (try simp only [bump]); omega) (fun q7 hX => ?_)
  have hag := Ag_up (q := q7) hag (by decide : 41 ≤ 47) (by decide)
  refine J_putRF (rL lr50) hX hin dX4_init_58 pf_RX4_30 (by decide) lo_40 rfl (fun _ => rfl) (fun _ => rfl) rL_new rL_old ?_
  refine J_aload_n hX dX4_init_61 rfl 0 rfl ?_
  refine J_sipush hX (200 : Int32) dX4_init_62 (by decide) ?_
  refine J_newarr hX dX4_init_65 rfl ac_int lay_48 (Or.inl ⟨rfl, rfl⟩) (by decide) (by decide) (by decide) (rfree_ne (by decide +kernel)) (hz 48 (by decide)) (by simp) (by simp) (by decide) (by (try simp only [bump]); omega) (by (try simp only [bump]); omega) (fun q8 hX => ?_)
  have hag := Ag_up (q := q8) hag (by decide : 41 ≤ 48) (by decide)
  refine J_putRF (rL lr51) hX hin dX4_init_67 pf_RX4_33 (by decide) lo_40 rfl (fun _ => rfl) (fun _ => rfl) rL_new rL_old ?_
  refine J_aload_n hX dX4_init_70 rfl 0 rfl ?_
  refine J_sipush hX (200 : Int32) dX4_init_71 (by decide) ?_
  refine J_newarr hX dX4_init_74 rfl ac_int lay_49 (Or.inl ⟨rfl, rfl⟩) (by decide) (by decide) (by decide) (rfree_ne (by decide +kernel)) (hz 49 (by decide)) (by simp) (by simp) (by decide) (by (try simp only [bump]); omega) (by (try simp only [bump]); omega) (fun q9 hX => ?_)
  have hag := Ag_up (q := q9) hag (by decide : 41 ≤ 49) (by decide)
  refine J_putRF (rL lr52) hX hin dX4_init_76 pf_RX4_36 (by decide) lo_40 rfl (fun _ => rfl) (fun _ => rfl) rL_new rL_old ?_
  refine J_aload_n hX dX4_init_79 rfl 0 rfl ?_
  refine J_sipush hX (160 : Int32) dX4_init_80 (by decide) ?_
  refine J_newarr hX dX4_init_83 rfl ac_int lay_50 (Or.inl ⟨rfl, rfl⟩) (by decide) (by decide) (by decide) (rfree_ne (by decide +kernel)) (hz 50 (by decide)) (by simp) (by simp) (by decide) (by (try simp only [bump]); omega) (by (try simp only [bump]); omega) (fun q10 hX => ?_)
  have hag := Ag_up (q := q10) hag (by decide : 41 ≤ 50) (by decide)
  refine J_putRF (rL lr53) hX hin dX4_init_85 pf_RX4_39 (by decide) lo_40 rfl (fun _ => rfl) (fun _ => rfl) rL_new rL_old ?_
  refine J_aload_n hX dX4_init_88 rfl 0 rfl ?_
  refine J_bipush hX (13 : Int32) dX4_init_89 (by decide) ?_
  refine J_newarr hX dX4_init_91 rfl ac_int lay_51 (Or.inl ⟨rfl, rfl⟩) (by decide) (by decide) (by decide) (rfree_ne (by decide +kernel)) (hz 51 (by decide)) (by simp) (by simp) (by decide) (by (try simp only [bump]); omega) (by (try simp only [bump]); omega) (fun q11 hX => ?_)
  have hag := Ag_up (q := q11) hag (by decide : 41 ≤ 51) (by decide)
  refine J_putRF (rL lr54) hX hin dX4_init_93 pf_RX4_42 (by decide) lo_40 rfl (fun _ => rfl) (fun _ => rfl) rL_new rL_old ?_
  refine J_aload_n hX dX4_init_96 rfl 0 rfl ?_
  refine J_bipush hX (13 : Int32) dX4_init_97 (by decide) ?_
  refine J_newarr hX dX4_init_99 rfl ac_int lay_52 (Or.inl ⟨rfl, rfl⟩) (by decide) (by decide) (by decide) (rfree_ne (by decide +kernel)) (hz 52 (by decide)) (by simp) (by simp) (by decide) (by (try simp only [bump]); omega) (by (try simp only [bump]); omega) (fun q12 hX => ?_)
  have hag := Ag_up (q := q12) hag (by decide : 41 ≤ 52) (by decide)
  refine J_putRF (rL lr55) hX hin dX4_init_101 pf_RX4_45 (by decide) lo_40 rfl (fun _ => rfl) (fun _ => rfl) rL_new rL_old ?_
  refine J_aload_n hX dX4_init_104 rfl 0 rfl ?_
  refine J_bipush hX (13 : Int32) dX4_init_105 (by decide) ?_
  refine J_newarr hX dX4_init_107 rfl ac_int lay_53 (Or.inl ⟨rfl, rfl⟩) (by decide) (by decide) (by decide) (rfree_ne (by decide +kernel)) (hz 53 (by decide)) (by simp) (by simp) (by decide) (by (try simp only [bump]); omega) (by (try simp only [bump]); omega) (fun q13 hX => ?_)
  have hag := Ag_up (q := q13) hag (by decide : 41 ≤ 53) (by decide)
  refine J_putRF (rL lr56) hX hin dX4_init_109 pf_RX4_48 (by decide) lo_40 rfl (fun _ => rfl) (fun _ => rfl) rL_new rL_old ?_
  exact J_returnN hX dX4_init_112 hQ (by (try simp only [bump]); omega) (by (try simp only [bump]); omega) hr hl hag)
def lr57 : List (Nat × Nat × Nat) := (0, 7, 40) :: lr56
def lr58 : List (Nat × Nat × Nat) := (54, 2, 55) :: lr57
def lr59 : List (Nat × Nat × Nat) := (54, 3, 56) :: lr58
def lr60 : List (Nat × Nat × Nat) := (54, 4, 57) :: lr59
def lr61 : List (Nat × Nat × Nat) := (54, 6, 58) :: lr60
def lr62 : List (Nat × Nat × Nat) := (54, 0, 26) :: lr61
theorem in_X6_init_54 {G : GG} {l : Launch} {ρ : Nat → Nat} {m : Mm} (hz : ∀ k, 55 ≤ k → zeroAt m k) : CN G l yX6_init cX6_init 2 1 4 421 ρ 55 (rL lr57) [.ref 54, .ref 26] m 59 (rL lr62) m := cn_of_J (by decide) rfl rfl (Nat.le_of_ble_eq_true rfl) (fun X hX hR e2 e3 e4 hQ hr hl hin => by
  have hRc : X.1.2.2.2.1.cells = 4 := by rw [hR]; rfl
  have hRs : X.1.2.2.2.1.slots = 421 := by rw [hR]; rfl
  have hag : Ag 55 ρ ρ := Ag_rf
  show J X G ρ 55 2 0 [(0, .ref 54), (1, .ref 26)] [] (rL lr57) m
  refine J_aload_n hX dX6_init_0 rfl 0 rfl ?_
  refine J_objinit hX dX6_init_1 (by omega) oi_RX6_3 (Nat.le_of_ble_eq_true rfl) ?_
  refine J_aload_n hX dX6_init_4 rfl 0 rfl ?_
  refine J_sipush hX (200 : Int32) dX6_init_5 (by decide) ?_
  refine J_newarr hX dX6_init_8 rfl ac_int lay_55 (Or.inl ⟨rfl, rfl⟩) (by decide) (by decide) (by decide) (rfree_ne (by decide +kernel)) (hz 55 (by decide)) (by simp) (by simp) (by decide) (by (try simp only [bump]); omega) (by (try simp only [bump]); omega) (fun q1 hX => ?_)
  have hag := Ag_up (q := q1) hag (by decide : 55 ≤ 55) (by decide)
  refine J_putRF (rL lr58) hX hin dX6_init_10 pf_RX6_9 (by decide) lo_54 rfl (fun _ => rfl) (fun _ => rfl) rL_new rL_old ?_
  refine J_aload_n hX dX6_init_13 rfl 0 rfl ?_
  refine J_sipush hX (200 : Int32) dX6_init_14 (by decide) ?_
  refine J_newarr hX dX6_init_17 rfl ac_int lay_56 (Or.inl ⟨rfl, rfl⟩) (by decide) (by decide) (by decide) (rfree_ne (by decide +kernel)) (hz 56 (by decide)) (by simp) (by simp) (by decide) (by (try simp only [bump]); omega) (by (try simp only [bump]); omega) (fun q2 hX => ?_)
  have hag := Ag_up (q := q2) hag (by decide : 55 ≤ 56) (by decide)
  refine J_putRF (rL lr59) hX hin dX6_init_19 pf_RX6_15 (by decide) lo_54 rfl (fun _ => rfl) (fun _ => rfl) rL_new rL_old ?_
  refine J_aload_n hX dX6_init_22 rfl 0 rfl ?_
  refine J_bipush hX (13 : Int32) dX6_init_23 (by decide) ?_
  refine J_newarr hX dX6_init_25 rfl ac_int lay_57 (Or.inl ⟨rfl, rfl⟩) (by decide) (by decide) (by decide) (rfree_ne (by decide +kernel)) (hz 57 (by decide)) (by simp) (by simp) (by decide) (by (try simp only [bump]); omega) (by (try simp only [bump]); omega) (fun q3 hX => ?_)
  have hag := Ag_up (q := q3) hag (by decide : 55 ≤ 57) (by decide)
  refine J_putRF (rL lr60) hX hin dX6_init_27 pf_RX6_18 (by decide) lo_54 rfl (fun _ => rfl) (fun _ => rfl) rL_new rL_old ?_
  refine J_aload_n hX dX6_init_30 rfl 0 rfl ?_
  refine J_bipush hX (8 : Int32) dX6_init_31 (by decide) ?_
  refine J_newarr hX dX6_init_33 rfl ac_int lay_58 (Or.inl ⟨rfl, rfl⟩) (by decide) (by decide) (by decide) (rfree_ne (by decide +kernel)) (hz 58 (by decide)) (by simp) (by simp) (by decide) (by (try simp only [bump]); omega) (by (try simp only [bump]); omega) (fun q4 hX => ?_)
  have hag := Ag_up (q := q4) hag (by decide : 55 ≤ 58) (by decide)
  refine J_putRF (rL lr61) hX hin dX6_init_35 pf_RX6_21 (by decide) lo_54 rfl (fun _ => rfl) (fun _ => rfl) rL_new rL_old ?_
  refine J_aload_n hX dX6_init_38 rfl 0 rfl ?_
  refine J_aload_n hX dX6_init_39 rfl 1 rfl ?_
  refine J_putRF (rL lr62) hX hin dX6_init_40 pf_RX6_24 (by decide) lo_54 rfl (fun _ => rfl) (fun _ => rfl) rL_new rL_old ?_
  exact J_returnN hX dX6_init_43 hQ (by (try simp only [bump]); omega) (by (try simp only [bump]); omega) hr hl hag)
def lr63 : List (Nat × Nat × Nat) := (0, 8, 54) :: lr62
def lr64 : List (Nat × Nat × Nat) := (59, 2, 60) :: lr63
def lr65 : List (Nat × Nat × Nat) := (59, 3, 61) :: lr64
def lr66 : List (Nat × Nat × Nat) := (59, 4, 62) :: lr65
def lr67 : List (Nat × Nat × Nat) := (59, 6, 63) :: lr66
def lr68 : List (Nat × Nat × Nat) := (59, 0, 26) :: lr67
theorem in_X6_init_59 {G : GG} {l : Launch} {ρ : Nat → Nat} {m : Mm} (hz : ∀ k, 60 ≤ k → zeroAt m k) : CN G l yX6_init cX6_init 2 1 4 421 ρ 60 (rL lr63) [.ref 59, .ref 26] m 64 (rL lr68) m := cn_of_J (by decide) rfl rfl (Nat.le_of_ble_eq_true rfl) (fun X hX hR e2 e3 e4 hQ hr hl hin => by
  have hRc : X.1.2.2.2.1.cells = 4 := by rw [hR]; rfl
  have hRs : X.1.2.2.2.1.slots = 421 := by rw [hR]; rfl
  have hag : Ag 60 ρ ρ := Ag_rf
  show J X G ρ 60 2 0 [(0, .ref 59), (1, .ref 26)] [] (rL lr63) m
  refine J_aload_n hX dX6_init_0 rfl 0 rfl ?_
  refine J_objinit hX dX6_init_1 (by omega) oi_RX6_3 (Nat.le_of_ble_eq_true rfl) ?_
  refine J_aload_n hX dX6_init_4 rfl 0 rfl ?_
  refine J_sipush hX (200 : Int32) dX6_init_5 (by decide) ?_
  refine J_newarr hX dX6_init_8 rfl ac_int lay_60 (Or.inl ⟨rfl, rfl⟩) (by decide) (by decide) (by decide) (rfree_ne (by decide +kernel)) (hz 60 (by decide)) (by simp) (by simp) (by decide) (by (try simp only [bump]); omega) (by (try simp only [bump]); omega) (fun q1 hX => ?_)
  have hag := Ag_up (q := q1) hag (by decide : 60 ≤ 60) (by decide)
  refine J_putRF (rL lr64) hX hin dX6_init_10 pf_RX6_9 (by decide) lo_59 rfl (fun _ => rfl) (fun _ => rfl) rL_new rL_old ?_
  refine J_aload_n hX dX6_init_13 rfl 0 rfl ?_
  refine J_sipush hX (200 : Int32) dX6_init_14 (by decide) ?_
  refine J_newarr hX dX6_init_17 rfl ac_int lay_61 (Or.inl ⟨rfl, rfl⟩) (by decide) (by decide) (by decide) (rfree_ne (by decide +kernel)) (hz 61 (by decide)) (by simp) (by simp) (by decide) (by (try simp only [bump]); omega) (by (try simp only [bump]); omega) (fun q2 hX => ?_)
  have hag := Ag_up (q := q2) hag (by decide : 60 ≤ 61) (by decide)
  refine J_putRF (rL lr65) hX hin dX6_init_19 pf_RX6_15 (by decide) lo_59 rfl (fun _ => rfl) (fun _ => rfl) rL_new rL_old ?_
  refine J_aload_n hX dX6_init_22 rfl 0 rfl ?_
  refine J_bipush hX (13 : Int32) dX6_init_23 (by decide) ?_
  refine J_newarr hX dX6_init_25 rfl ac_int lay_62 (Or.inl ⟨rfl, rfl⟩) (by decide) (by decide) (by decide) (rfree_ne (by decide +kernel)) (hz 62 (by decide)) (by simp) (by simp) (by decide) (by (try simp only [bump]); omega) (by (try simp only [bump]); omega) (fun q3 hX => ?_)
  have hag := Ag_up (q := q3) hag (by decide : 60 ≤ 62) (by decide)
  refine J_putRF (rL lr66) hX hin dX6_init_27 pf_RX6_18 (by decide) lo_59 rfl (fun _ => rfl) (fun _ => rfl) rL_new rL_old ?_
  refine J_aload_n hX dX6_init_30 rfl 0 rfl ?_
  refine J_bipush hX (8 : Int32) dX6_init_31 (by decide) ?_
  refine J_newarr hX dX6_init_33 rfl ac_int lay_63 (Or.inl ⟨rfl, rfl⟩) (by decide) (by decide) (by decide) (rfree_ne (by decide +kernel)) (hz 63 (by decide)) (by simp) (by simp) (by decide) (by (try simp only [bump]); omega) (by (try simp only [bump]); omega) (fun q4 hX => ?_)
  have hag := Ag_up (q := q4) hag (by decide : 60 ≤ 63) (by decide)
  refine J_putRF (rL lr67) hX hin dX6_init_35 pf_RX6_21 (by decide) lo_59 rfl (fun _ => rfl) (fun _ => rfl) rL_new rL_old ?_
  refine J_aload_n hX dX6_init_38 rfl 0 rfl ?_
  refine J_aload_n hX dX6_init_39 rfl 1 rfl ?_
  refine J_putRF (rL lr68) hX hin dX6_init_40 pf_RX6_24 (by decide) lo_59 rfl (fun _ => rfl) (fun _ => rfl) rL_new rL_old ?_
  exact J_returnN hX dX6_init_43 hQ (by (try simp only [bump]); omega) (by (try simp only [bump]); omega) hr hl hag)
def lr69 : List (Nat × Nat × Nat) := (0, 9, 59) :: lr68
def lr70 : List (Nat × Nat × Nat) := (65, 2, 66) :: lr69
def lr71 : List (Nat × Nat × Nat) := (65, 3, 67) :: lr70
def lr72 : List (Nat × Nat × Nat) := (65, 4, 68) :: lr71
def lr73 : List (Nat × Nat × Nat) := (65, 6, 69) :: lr72
def lr74 : List (Nat × Nat × Nat) := (65, 0, 26) :: lr73
theorem in_X6_init_65 {G : GG} {l : Launch} {ρ : Nat → Nat} {m : Mm} (hz : ∀ k, 66 ≤ k → zeroAt m k) : CN G l yX6_init cX6_init 2 1 4 421 ρ 66 (rL lr69) [.ref 65, .ref 26] m 70 (rL lr74) m := cn_of_J (by decide) rfl rfl (Nat.le_of_ble_eq_true rfl) (fun X hX hR e2 e3 e4 hQ hr hl hin => by
  have hRc : X.1.2.2.2.1.cells = 4 := by rw [hR]; rfl
  have hRs : X.1.2.2.2.1.slots = 421 := by rw [hR]; rfl
  have hag : Ag 66 ρ ρ := Ag_rf
  show J X G ρ 66 2 0 [(0, .ref 65), (1, .ref 26)] [] (rL lr69) m
  refine J_aload_n hX dX6_init_0 rfl 0 rfl ?_
  refine J_objinit hX dX6_init_1 (by omega) oi_RX6_3 (Nat.le_of_ble_eq_true rfl) ?_
  refine J_aload_n hX dX6_init_4 rfl 0 rfl ?_
  refine J_sipush hX (200 : Int32) dX6_init_5 (by decide) ?_
  refine J_newarr hX dX6_init_8 rfl ac_int lay_66 (Or.inl ⟨rfl, rfl⟩) (by decide) (by decide) (by decide) (rfree_ne (by decide +kernel)) (hz 66 (by decide)) (by simp) (by simp) (by decide) (by (try simp only [bump]); omega) (by (try simp only [bump]); omega) (fun q1 hX => ?_)
  have hag := Ag_up (q := q1) hag (by decide : 66 ≤ 66) (by decide)
  refine J_putRF (rL lr70) hX hin dX6_init_10 pf_RX6_9 (by decide) lo_65 rfl (fun _ => rfl) (fun _ => rfl) rL_new rL_old ?_
  refine J_aload_n hX dX6_init_13 rfl 0 rfl ?_
  refine J_sipush hX (200 : Int32) dX6_init_14 (by decide) ?_
  refine J_newarr hX dX6_init_17 rfl ac_int lay_67 (Or.inl ⟨rfl, rfl⟩) (by decide) (by decide) (by decide) (rfree_ne (by decide +kernel)) (hz 67 (by decide)) (by simp) (by simp) (by decide) (by (try simp only [bump]); omega) (by (try simp only [bump]); omega) (fun q2 hX => ?_)
  have hag := Ag_up (q := q2) hag (by decide : 66 ≤ 67) (by decide)
  refine J_putRF (rL lr71) hX hin dX6_init_19 pf_RX6_15 (by decide) lo_65 rfl (fun _ => rfl) (fun _ => rfl) rL_new rL_old ?_
  refine J_aload_n hX dX6_init_22 rfl 0 rfl ?_
  refine J_bipush hX (13 : Int32) dX6_init_23 (by decide) ?_
  refine J_newarr hX dX6_init_25 rfl ac_int lay_68 (Or.inl ⟨rfl, rfl⟩) (by decide) (by decide) (by decide) (rfree_ne (by decide +kernel)) (hz 68 (by decide)) (by simp) (by simp) (by decide) (by (try simp only [bump]); omega) (by (try simp only [bump]); omega) (fun q3 hX => ?_)
  have hag := Ag_up (q := q3) hag (by decide : 66 ≤ 68) (by decide)
  refine J_putRF (rL lr72) hX hin dX6_init_27 pf_RX6_18 (by decide) lo_65 rfl (fun _ => rfl) (fun _ => rfl) rL_new rL_old ?_
  refine J_aload_n hX dX6_init_30 rfl 0 rfl ?_
  refine J_bipush hX (8 : Int32) dX6_init_31 (by decide) ?_
  refine J_newarr hX dX6_init_33 rfl ac_int lay_69 (Or.inl ⟨rfl, rfl⟩) (by decide) (by decide) (by decide) (rfree_ne (by decide +kernel)) (hz 69 (by decide)) (by simp) (by simp) (by decide) (by (try simp only [bump]); omega) (by (try simp only [bump]); omega) (fun q4 hX => ?_)
  have hag := Ag_up (q := q4) hag (by decide : 66 ≤ 69) (by decide)
  refine J_putRF (rL lr73) hX hin dX6_init_35 pf_RX6_21 (by decide) lo_65 rfl (fun _ => rfl) (fun _ => rfl) rL_new rL_old ?_
  refine J_aload_n hX dX6_init_38 rfl 0 rfl ?_
  refine J_aload_n hX dX6_init_39 rfl 1 rfl ?_
  refine J_putRF (rL lr74) hX hin dX6_init_40 pf_RX6_24 (by decide) lo_65 rfl (fun _ => rfl) (fun _ => rfl) rL_new rL_old ?_
  exact J_returnN hX dX6_init_43 hQ (by (try simp only [bump]); omega) (by (try simp only [bump]); omega) hr hl hag)
def lr75 : List (Nat × Nat × Nat) := (64, 0, 65) :: lr74
def lr76 : List (Nat × Nat × Nat) := (70, 2, 71) :: lr75
def lr77 : List (Nat × Nat × Nat) := (70, 3, 72) :: lr76
def lr78 : List (Nat × Nat × Nat) := (70, 4, 73) :: lr77
def lr79 : List (Nat × Nat × Nat) := (70, 6, 74) :: lr78
def lr80 : List (Nat × Nat × Nat) := (70, 0, 26) :: lr79
theorem in_X6_init_70 {G : GG} {l : Launch} {ρ : Nat → Nat} {m : Mm} (hz : ∀ k, 71 ≤ k → zeroAt m k) : CN G l yX6_init cX6_init 2 1 4 421 ρ 71 (rL lr75) [.ref 70, .ref 26] m 75 (rL lr80) m := cn_of_J (by decide) rfl rfl (Nat.le_of_ble_eq_true rfl) (fun X hX hR e2 e3 e4 hQ hr hl hin => by
  have hRc : X.1.2.2.2.1.cells = 4 := by rw [hR]; rfl
  have hRs : X.1.2.2.2.1.slots = 421 := by rw [hR]; rfl
  have hag : Ag 71 ρ ρ := Ag_rf
  show J X G ρ 71 2 0 [(0, .ref 70), (1, .ref 26)] [] (rL lr75) m
  refine J_aload_n hX dX6_init_0 rfl 0 rfl ?_
  refine J_objinit hX dX6_init_1 (by omega) oi_RX6_3 (Nat.le_of_ble_eq_true rfl) ?_
  refine J_aload_n hX dX6_init_4 rfl 0 rfl ?_
  refine J_sipush hX (200 : Int32) dX6_init_5 (by decide) ?_
  refine J_newarr hX dX6_init_8 rfl ac_int lay_71 (Or.inl ⟨rfl, rfl⟩) (by decide) (by decide) (by decide) (rfree_ne (by decide +kernel)) (hz 71 (by decide)) (by simp) (by simp) (by decide) (by (try simp only [bump]); omega) (by (try simp only [bump]); omega) (fun q1 hX => ?_)
  have hag := Ag_up (q := q1) hag (by decide : 71 ≤ 71) (by decide)
  refine J_putRF (rL lr76) hX hin dX6_init_10 pf_RX6_9 (by decide) lo_70 rfl (fun _ => rfl) (fun _ => rfl) rL_new rL_old ?_
  refine J_aload_n hX dX6_init_13 rfl 0 rfl ?_
  refine J_sipush hX (200 : Int32) dX6_init_14 (by decide) ?_
  refine J_newarr hX dX6_init_17 rfl ac_int lay_72 (Or.inl ⟨rfl, rfl⟩) (by decide) (by decide) (by decide) (rfree_ne (by decide +kernel)) (hz 72 (by decide)) (by simp) (by simp) (by decide) (by (try simp only [bump]); omega) (by (try simp only [bump]); omega) (fun q2 hX => ?_)
  have hag := Ag_up (q := q2) hag (by decide : 71 ≤ 72) (by decide)
  refine J_putRF (rL lr77) hX hin dX6_init_19 pf_RX6_15 (by decide) lo_70 rfl (fun _ => rfl) (fun _ => rfl) rL_new rL_old ?_
  refine J_aload_n hX dX6_init_22 rfl 0 rfl ?_
  refine J_bipush hX (13 : Int32) dX6_init_23 (by decide) ?_
  refine J_newarr hX dX6_init_25 rfl ac_int lay_73 (Or.inl ⟨rfl, rfl⟩) (by decide) (by decide) (by decide) (rfree_ne (by decide +kernel)) (hz 73 (by decide)) (by simp) (by simp) (by decide) (by (try simp only [bump]); omega) (by (try simp only [bump]); omega) (fun q3 hX => ?_)
  have hag := Ag_up (q := q3) hag (by decide : 71 ≤ 73) (by decide)
  refine J_putRF (rL lr78) hX hin dX6_init_27 pf_RX6_18 (by decide) lo_70 rfl (fun _ => rfl) (fun _ => rfl) rL_new rL_old ?_
  refine J_aload_n hX dX6_init_30 rfl 0 rfl ?_
  refine J_bipush hX (8 : Int32) dX6_init_31 (by decide) ?_
  refine J_newarr hX dX6_init_33 rfl ac_int lay_74 (Or.inl ⟨rfl, rfl⟩) (by decide) (by decide) (by decide) (rfree_ne (by decide +kernel)) (hz 74 (by decide)) (by simp) (by simp) (by decide) (by (try simp only [bump]); omega) (by (try simp only [bump]); omega) (fun q4 hX => ?_)
  have hag := Ag_up (q := q4) hag (by decide : 71 ≤ 74) (by decide)
  refine J_putRF (rL lr79) hX hin dX6_init_35 pf_RX6_21 (by decide) lo_70 rfl (fun _ => rfl) (fun _ => rfl) rL_new rL_old ?_
  refine J_aload_n hX dX6_init_38 rfl 0 rfl ?_
  refine J_aload_n hX dX6_init_39 rfl 1 rfl ?_
  refine J_putRF (rL lr80) hX hin dX6_init_40 pf_RX6_24 (by decide) lo_70 rfl (fun _ => rfl) (fun _ => rfl) rL_new rL_old ?_
  exact J_returnN hX dX6_init_43 hQ (by (try simp only [bump]); omega) (by (try simp only [bump]); omega) hr hl hag)
def lr81 : List (Nat × Nat × Nat) := (64, 1, 70) :: lr80
def lr82 : List (Nat × Nat × Nat) := (0, 10, 64) :: lr81
def lr83 : List (Nat × Nat × Nat) := (0, 11, 75) :: lr82
def lr84 : List (Nat × Nat × Nat) := (76, 2, 77) :: lr83
def lr85 : List (Nat × Nat × Nat) := (76, 0, 54) :: lr84
def lr86 : List (Nat × Nat × Nat) := (76, 1, 26) :: lr85
theorem in_X5_init_76 {G : GG} {l : Launch} {ρ : Nat → Nat} {m : Mm} (hz : ∀ k, 77 ≤ k → zeroAt m k) : CN G l yX5_init cX5_init 3 1 1 13 ρ 77 (rL lr83) [.ref 76, .ref 54, .ref 26] m 78 (rL lr86) m := cn_of_J (by decide) rfl rfl (Nat.le_of_ble_eq_true rfl) (fun X hX hR e2 e3 e4 hQ hr hl hin => by
  have hRc : X.1.2.2.2.1.cells = 1 := by rw [hR]; rfl
  have hRs : X.1.2.2.2.1.slots = 13 := by rw [hR]; rfl
  have hag : Ag 77 ρ ρ := Ag_rf
  show J X G ρ 77 3 0 [(0, .ref 76), (1, .ref 54), (2, .ref 26)] [] (rL lr83) m
  refine J_aload_n hX dX5_init_0 rfl 0 rfl ?_
  refine J_objinit hX dX5_init_1 (by omega) oi_RX5_3 (Nat.le_of_ble_eq_true rfl) ?_
  refine J_aload_n hX dX5_init_4 rfl 0 rfl ?_
  refine J_bipush hX (13 : Int32) dX5_init_5 (by decide) ?_
  refine J_newarr hX dX5_init_7 rfl ac_int lay_77 (Or.inl ⟨rfl, rfl⟩) (by decide) (by decide) (by decide) (rfree_ne (by decide +kernel)) (hz 77 (by decide)) (by simp) (by simp) (by decide) (by (try simp only [bump]); omega) (by (try simp only [bump]); omega) (fun q1 hX => ?_)
  have hag := Ag_up (q := q1) hag (by decide : 77 ≤ 77) (by decide)
  refine J_putRF (rL lr84) hX hin dX5_init_9 pf_RX5_9 (by decide) lo_76 rfl (fun _ => rfl) (fun _ => rfl) rL_new rL_old ?_
  refine J_aload_n hX dX5_init_12 rfl 0 rfl ?_
  refine J_aload_n hX dX5_init_13 rfl 1 rfl ?_
  refine J_putRF (rL lr85) hX hin dX5_init_14 pf_RX5_15 (by decide) lo_76 rfl (fun _ => rfl) (fun _ => rfl) rL_new rL_old ?_
  refine J_aload_n hX dX5_init_17 rfl 0 rfl ?_
  refine J_aload_n hX dX5_init_18 rfl 2 rfl ?_
  refine J_putRF (rL lr86) hX hin dX5_init_19 pf_RX5_19 (by decide) lo_76 rfl (fun _ => rfl) (fun _ => rfl) rL_new rL_old ?_
  exact J_returnN hX dX5_init_22 hQ (by (try simp only [bump]); omega) (by (try simp only [bump]); omega) hr hl hag)
def lr87 : List (Nat × Nat × Nat) := (0, 12, 76) :: lr86
theorem in_X10_init_0 {G : GG} {l : Launch} {ρ : Nat → Nat} {m : Mm} (hz : ∀ k, 1 ≤ k → zeroAt m k) : CN G l yX10_init cX10_init 1 3 77 7259 ρ 1 (rL lr0) [.ref 0] m 78 (rL lr87) m := cn_of_J (by decide) rfl rfl (Nat.le_of_ble_eq_true rfl) (fun X hX hR e2 e3 e4 hQ hr hl hin => by
  have hRc : X.1.2.2.2.1.cells = 77 := by rw [hR]; rfl
  have hRs : X.1.2.2.2.1.slots = 7259 := by rw [hR]; rfl
  have hag : Ag 1 ρ ρ := Ag_rf
  show J X G ρ 1 1 0 [(0, .ref 0)] [] (rL lr0) m
  refine J_aload_n hX dX10_init_0 rfl 0 rfl ?_
  refine J_objinit hX dX10_init_1 (by omega) oi_RX10_3 (Nat.le_of_ble_eq_true rfl) ?_
  refine J_aload_n hX dX10_init_4 rfl 0 rfl ?_
  refine J_new hX dX10_init_5 nw_RX10_9 lay_1 (by decide) (rfree_none (by decide +kernel)) (rfree_ne (by decide +kernel)) (hz 1 (by decide)) (by simp) (by simp) (by decide) (by (try simp only [bump]); omega) (by (try simp only [bump]); omega) (fun q1 hX => ?_)
  have hag := Ag_up (q := q1) hag (by decide : 1 ≤ 1) (by decide)
  refine J_dup hX dX10_init_8 rfl ?_
  refine J_callIN (As := []) (st := [.ref 1, .ref 0]) hX dX10_init_9 ci_RX10_11 (by omega) (in_X7_init_1 (fun k hk => hz k (Nat.le_trans (by decide) hk))) rfl rfl (Nat.le_of_ble_eq_true rfl) (by (try simp only [bump]); omega) (by (try simp only [bump]); omega) (by simp) (by simp) (fun q2 hag2 hX => ?_)
  have hag := Ag_tr hag (by decide : 1 ≤ 2) hag2
  refine J_putRF (rL lr2) hX hin dX10_init_12 pf_RX10_12 (by decide) lo_0 rfl (fun _ => rfl) (fun _ => rfl) rL_new rL_old ?_
  refine J_aload_n hX dX10_init_15 rfl 0 rfl ?_
  refine J_new hX dX10_init_16 nw_RX10_16 lay_3 (by decide) (rfree_none (by decide +kernel)) (rfree_ne (by decide +kernel)) (hz 3 (by decide)) (by simp) (by simp) (by decide) (by (try simp only [bump]); omega) (by (try simp only [bump]); omega) (fun q3 hX => ?_)
  have hag := Ag_up (q := q3) hag (by decide : 1 ≤ 3) (by decide)
  refine J_dup hX dX10_init_19 rfl ?_
  refine J_callIN (As := []) (st := [.ref 3, .ref 0]) hX dX10_init_20 ci_RX10_18 (by omega) (in_X8_init_3 (fun k hk => hz k (Nat.le_trans (by decide) hk))) rfl rfl (Nat.le_of_ble_eq_true rfl) (by (try simp only [bump]); omega) (by (try simp only [bump]); omega) (by simp) (by simp) (fun q4 hag2 hX => ?_)
  have hag := Ag_tr hag (by decide : 1 ≤ 4) hag2
  refine J_putR (rL lr9) hX dX10_init_23 pl_RX10_19 (by decide) lo_0 rfl rL_new rL_old ?_
  refine J_aload_n hX dX10_init_26 rfl 0 rfl ?_
  refine J_new hX dX10_init_27 nw_RX10_16 lay_10 (by decide) (rfree_none (by decide +kernel)) (rfree_ne (by decide +kernel)) (hz 10 (by decide)) (by simp) (by simp) (by decide) (by (try simp only [bump]); omega) (by (try simp only [bump]); omega) (fun q5 hX => ?_)
  have hag := Ag_up (q := q5) hag (by decide : 1 ≤ 10) (by decide)
  refine J_dup hX dX10_init_30 rfl ?_
  refine J_callIN (As := []) (st := [.ref 10, .ref 0]) hX dX10_init_31 ci_RX10_18 (by omega) (in_X8_init_10 (fun k hk => hz k (Nat.le_trans (by decide) hk))) rfl rfl (Nat.le_of_ble_eq_true rfl) (by (try simp only [bump]); omega) (by (try simp only [bump]); omega) (by simp) (by simp) (fun q6 hag2 hX => ?_)
  have hag := Ag_tr hag (by decide : 1 ≤ 11) hag2
  refine J_putR (rL lr16) hX dX10_init_34 pl_RX10_23 (by decide) lo_0 rfl rL_new rL_old ?_
  refine J_aload_n hX dX10_init_37 rfl 0 rfl ?_
  refine J_new hX dX10_init_38 nw_RX10_26 lay_17 (by decide) (rfree_none (by decide +kernel)) (rfree_ne (by decide +kernel)) (hz 17 (by decide)) (by simp) (by simp) (by decide) (by (try simp only [bump]); omega) (by (try simp only [bump]); omega) (fun q7 hX => ?_)
  have hag := Ag_up (q := q7) hag (by decide : 1 ≤ 17) (by decide)
  refine J_dup hX dX10_init_41 rfl ?_
  refine J_aload_n hX dX10_init_42 rfl 0 rfl ?_
  refine J_getR hX dX10_init_43 fl_RX10_12 (by decide) lo_0 rfl (show rL lr16 0 0 = some 1 from rfl) ?_
  refine J_aload_n hX dX10_init_46 rfl 0 rfl ?_
  refine J_getR hX dX10_init_47 fl_RX10_23 (by decide) lo_0 rfl (show rL lr16 0 2 = some 10 from rfl) ?_
  refine J_callI (As := [.ref 1, .ref 10]) (st := [.ref 17, .ref 0]) hX dX10_init_50 ci_RX10_28 (by omega) (in_X0_init_17 (fun k hk => hz k (Nat.le_trans (by decide) hk))) rfl rfl (Nat.le_of_ble_eq_true rfl) (by (try simp only [bump]); omega) (by (try simp only [bump]); omega) (by simp) (by simp) (fun q8 hag2 hX => ?_)
  have hag := Ag_tr hag (by decide : 1 ≤ 18) hag2
  refine J_putRF (rL lr19) hX hin dX10_init_53 pf_RX10_31 (by decide) lo_0 rfl (fun _ => rfl) (fun _ => rfl) rL_new rL_old ?_
  refine J_aload_n hX dX10_init_56 rfl 0 rfl ?_
  refine J_new hX dX10_init_57 nw_RX10_35 lay_18 (by decide) (rfree_none (by decide +kernel)) (rfree_ne (by decide +kernel)) (hz 18 (by decide)) (by simp) (by simp) (by decide) (by (try simp only [bump]); omega) (by (try simp only [bump]); omega) (fun q9 hX => ?_)
  have hag := Ag_up (q := q9) hag (by decide : 1 ≤ 18) (by decide)
  refine J_dup hX dX10_init_60 rfl ?_
  refine J_aload_n hX dX10_init_61 rfl 0 rfl ?_
  refine J_getR hX dX10_init_62 fl_RX10_12 (by decide) lo_0 rfl (show rL lr19 0 0 = some 1 from rfl) ?_
  refine J_callI (As := [.ref 1]) (st := [.ref 18, .ref 0]) hX dX10_init_65 ci_RX10_37 (by omega) (in_X9_init_18 (fun k hk => hz k (Nat.le_trans (by decide) hk))) rfl rfl (Nat.le_of_ble_eq_true rfl) (by (try simp only [bump]); omega) (by (try simp only [bump]); omega) (by simp) (by simp) (fun q10 hag2 hX => ?_)
  have hag := Ag_tr hag (by decide : 1 ≤ 19) hag2
  refine J_putR (rL lr24) hX dX10_init_68 pl_RX10_40 (by decide) lo_0 rfl rL_new rL_old ?_
  refine J_aload_n hX dX10_init_71 rfl 0 rfl ?_
  refine J_new hX dX10_init_72 nw_RX10_35 lay_22 (by decide) (rfree_none (by decide +kernel)) (rfree_ne (by decide +kernel)) (hz 22 (by decide)) (by simp) (by simp) (by decide) (by (try simp only [bump]); omega) (by (try simp only [bump]); omega) (fun q11 hX => ?_)
  have hag := Ag_up (q := q11) hag (by decide : 1 ≤ 22) (by decide)
  refine J_dup hX dX10_init_75 rfl ?_
  refine J_aload_n hX dX10_init_76 rfl 0 rfl ?_
  refine J_getR hX dX10_init_77 fl_RX10_12 (by decide) lo_0 rfl (show rL lr24 0 0 = some 1 from rfl) ?_
  refine J_callI (As := [.ref 1]) (st := [.ref 22, .ref 0]) hX dX10_init_80 ci_RX10_37 (by omega) (in_X9_init_22 (fun k hk => hz k (Nat.le_trans (by decide) hk))) rfl rfl (Nat.le_of_ble_eq_true rfl) (by (try simp only [bump]); omega) (by (try simp only [bump]); omega) (by simp) (by simp) (fun q12 hag2 hX => ?_)
  have hag := Ag_tr hag (by decide : 1 ≤ 23) hag2
  refine J_putR (rL lr29) hX dX10_init_83 pl_RX10_44 (by decide) lo_0 rfl rL_new rL_old ?_
  refine J_aload_n hX dX10_init_86 rfl 0 rfl ?_
  refine J_new hX dX10_init_87 nw_RX10_47 lay_26 (by decide) (rfree_none (by decide +kernel)) (rfree_ne (by decide +kernel)) (hz 26 (by decide)) (by simp) (by simp) (by decide) (by (try simp only [bump]); omega) (by (try simp only [bump]); omega) (fun q13 hX => ?_)
  have hag := Ag_up (q := q13) hag (by decide : 1 ≤ 26) (by decide)
  refine J_dup hX dX10_init_90 rfl ?_
  refine J_callIN (As := []) (st := [.ref 26, .ref 0]) hX dX10_init_91 ci_RX10_49 (by omega) (in_X4_init_26 (fun k hk => hz k (Nat.le_trans (by decide) hk))) rfl rfl (Nat.le_of_ble_eq_true rfl) (by (try simp only [bump]); omega) (by (try simp only [bump]); omega) (by simp) (by simp) (fun q14 hag2 hX => ?_)
  have hag := Ag_tr hag (by decide : 1 ≤ 27) hag2
  refine J_putRF (rL lr43) hX hin dX10_init_94 pf_RX10_50 (by decide) lo_0 rfl (fun _ => rfl) (fun _ => rfl) rL_new rL_old ?_
  refine J_aload_n hX dX10_init_97 rfl 0 rfl ?_
  refine J_new hX dX10_init_98 nw_RX10_47 lay_40 (by decide) (rfree_none (by decide +kernel)) (rfree_ne (by decide +kernel)) (hz 40 (by decide)) (by simp) (by simp) (by decide) (by (try simp only [bump]); omega) (by (try simp only [bump]); omega) (fun q15 hX => ?_)
  have hag := Ag_up (q := q15) hag (by decide : 1 ≤ 40) (by decide)
  refine J_dup hX dX10_init_101 rfl ?_
  refine J_callIN (As := []) (st := [.ref 40, .ref 0]) hX dX10_init_102 ci_RX10_49 (by omega) (in_X4_init_40 (fun k hk => hz k (Nat.le_trans (by decide) hk))) rfl rfl (Nat.le_of_ble_eq_true rfl) (by (try simp only [bump]); omega) (by (try simp only [bump]); omega) (by simp) (by simp) (fun q16 hag2 hX => ?_)
  have hag := Ag_tr hag (by decide : 1 ≤ 41) hag2
  refine J_putRF (rL lr57) hX hin dX10_init_105 pf_RX10_54 (by decide) lo_0 rfl (fun _ => rfl) (fun _ => rfl) rL_new rL_old ?_
  refine J_aload_n hX dX10_init_108 rfl 0 rfl ?_
  refine J_new hX dX10_init_109 nw_RX10_57 lay_54 (by decide) (rfree_none (by decide +kernel)) (rfree_ne (by decide +kernel)) (hz 54 (by decide)) (by simp) (by simp) (by decide) (by (try simp only [bump]); omega) (by (try simp only [bump]); omega) (fun q17 hX => ?_)
  have hag := Ag_up (q := q17) hag (by decide : 1 ≤ 54) (by decide)
  refine J_dup hX dX10_init_112 rfl ?_
  refine J_aload_n hX dX10_init_113 rfl 0 rfl ?_
  refine J_getR hX dX10_init_114 fl_RX10_50 (by decide) lo_0 rfl (show rL lr57 0 6 = some 26 from rfl) ?_
  refine J_callI (As := [.ref 26]) (st := [.ref 54, .ref 0]) hX dX10_init_117 ci_RX10_59 (by omega) (in_X6_init_54 (fun k hk => hz k (Nat.le_trans (by decide) hk))) rfl rfl (Nat.le_of_ble_eq_true rfl) (by (try simp only [bump]); omega) (by (try simp only [bump]); omega) (by simp) (by simp) (fun q18 hag2 hX => ?_)
  have hag := Ag_tr hag (by decide : 1 ≤ 55) hag2
  refine J_putRF (rL lr63) hX hin dX10_init_120 pf_RX10_62 (by decide) lo_0 rfl (fun _ => rfl) (fun _ => rfl) rL_new rL_old ?_
  refine J_aload_n hX dX10_init_123 rfl 0 rfl ?_
  refine J_new hX dX10_init_124 nw_RX10_57 lay_59 (by decide) (rfree_none (by decide +kernel)) (rfree_ne (by decide +kernel)) (hz 59 (by decide)) (by simp) (by simp) (by decide) (by (try simp only [bump]); omega) (by (try simp only [bump]); omega) (fun q19 hX => ?_)
  have hag := Ag_up (q := q19) hag (by decide : 1 ≤ 59) (by decide)
  refine J_dup hX dX10_init_127 rfl ?_
  refine J_aload_n hX dX10_init_128 rfl 0 rfl ?_
  refine J_getR hX dX10_init_129 fl_RX10_50 (by decide) lo_0 rfl (show rL lr63 0 6 = some 26 from rfl) ?_
  refine J_callI (As := [.ref 26]) (st := [.ref 59, .ref 0]) hX dX10_init_132 ci_RX10_59 (by omega) (in_X6_init_59 (fun k hk => hz k (Nat.le_trans (by decide) hk))) rfl rfl (Nat.le_of_ble_eq_true rfl) (by (try simp only [bump]); omega) (by (try simp only [bump]); omega) (by simp) (by simp) (fun q20 hag2 hX => ?_)
  have hag := Ag_tr hag (by decide : 1 ≤ 60) hag2
  refine J_putRF (rL lr69) hX hin dX10_init_135 pf_RX10_66 (by decide) lo_0 rfl (fun _ => rfl) (fun _ => rfl) rL_new rL_old ?_
  refine J_aload_n hX dX10_init_138 rfl 0 rfl ?_
  refine J_iconst hX (2 : Int32) dX10_init_139 (by decide) ?_
  refine J_anew hX dX10_init_140 cl_RX10_57 lay_64 (by decide) (by decide) (by decide) (rfree_none (by decide +kernel)) (rfree_ne (by decide +kernel)) (by simp) (by simp) (by decide) (by (try simp only [bump]); omega) (by (try simp only [bump]); omega) (fun q21 hX => ?_)
  have hag := Ag_up (q := q21) hag (by decide : 1 ≤ 64) (by decide)
  refine J_dup hX dX10_init_143 rfl ?_
  refine J_iconst hX (0 : Int32) dX10_init_144 (by decide) ?_
  refine J_new hX dX10_init_145 nw_RX10_57 lay_65 (by decide) (rfree_none (by decide +kernel)) (rfree_ne (by decide +kernel)) (hz 65 (by decide)) (by simp) (by simp) (by decide) (by (try simp only [bump]); omega) (by (try simp only [bump]); omega) (fun q22 hX => ?_)
  have hag := Ag_up (q := q22) hag (by decide : 1 ≤ 65) (by decide)
  refine J_dup hX dX10_init_148 rfl ?_
  refine J_aload_n hX dX10_init_149 rfl 0 rfl ?_
  refine J_getR hX dX10_init_150 fl_RX10_50 (by decide) lo_0 rfl (show rL lr69 0 6 = some 26 from rfl) ?_
  refine J_callI (As := [.ref 26]) (st := [.ref 65, .int (0 : Int32), .ref 64, .ref 64, .ref 0]) hX dX10_init_153 ci_RX10_59 (by omega) (in_X6_init_65 (fun k hk => hz k (Nat.le_trans (by decide) hk))) rfl rfl (Nat.le_of_ble_eq_true rfl) (by (try simp only [bump]); omega) (by (try simp only [bump]); omega) (by simp) (by simp) (fun q23 hag2 hX => ?_)
  have hag := Ag_tr hag (by decide : 1 ≤ 66) hag2
  refine J_aast hX (rL lr75) dX10_init_156 (by decide) lay_64 (by decide) (by decide) lo_65 rL_new rL_old ?_
  refine J_dup hX dX10_init_157 rfl ?_
  refine J_iconst hX (1 : Int32) dX10_init_158 (by decide) ?_
  refine J_new hX dX10_init_159 nw_RX10_57 lay_70 (by decide) (rfree_none (by decide +kernel)) (rfree_ne (by decide +kernel)) (hz 70 (by decide)) (by simp) (by simp) (by decide) (by (try simp only [bump]); omega) (by (try simp only [bump]); omega) (fun q24 hX => ?_)
  have hag := Ag_up (q := q24) hag (by decide : 1 ≤ 70) (by decide)
  refine J_dup hX dX10_init_162 rfl ?_
  refine J_aload_n hX dX10_init_163 rfl 0 rfl ?_
  refine J_getR hX dX10_init_164 fl_RX10_50 (by decide) lo_0 rfl (show rL lr75 0 6 = some 26 from rfl) ?_
  refine J_callI (As := [.ref 26]) (st := [.ref 70, .int (1 : Int32), .ref 64, .ref 64, .ref 0]) hX dX10_init_167 ci_RX10_59 (by omega) (in_X6_init_70 (fun k hk => hz k (Nat.le_trans (by decide) hk))) rfl rfl (Nat.le_of_ble_eq_true rfl) (by (try simp only [bump]); omega) (by (try simp only [bump]); omega) (by simp) (by simp) (fun q25 hag2 hX => ?_)
  have hag := Ag_tr hag (by decide : 1 ≤ 71) hag2
  refine J_aast hX (rL lr81) dX10_init_170 (by decide) lay_64 (by decide) (by decide) lo_70 rL_new rL_old ?_
  refine J_putRF (rL lr82) hX hin dX10_init_171 pf_RX10_69 (by decide) lo_0 rfl (fun _ => rfl) (fun _ => rfl) rL_new rL_old ?_
  refine J_aload_n hX dX10_init_174 rfl 0 rfl ?_
  refine J_iconst hX (2 : Int32) dX10_init_175 (by decide) ?_
  refine J_newarr hX dX10_init_176 rfl ac_boolean lay_75 (Or.inr (Or.inr (Or.inl ⟨rfl, rfl⟩))) (by decide) (by decide) (by decide) (rfree_ne (by decide +kernel)) (hz 75 (by decide)) (by simp) (by simp) (by decide) (by (try simp only [bump]); omega) (by (try simp only [bump]); omega) (fun q26 hX => ?_)
  have hag := Ag_up (q := q26) hag (by decide : 1 ≤ 75) (by decide)
  refine J_putRF (rL lr83) hX hin dX10_init_178 pf_RX10_73 (by decide) lo_0 rfl (fun _ => rfl) (fun _ => rfl) rL_new rL_old ?_
  refine J_aload_n hX dX10_init_181 rfl 0 rfl ?_
  refine J_new hX dX10_init_182 nw_RX10_77 lay_76 (by decide) (rfree_none (by decide +kernel)) (rfree_ne (by decide +kernel)) (hz 76 (by decide)) (by simp) (by simp) (by decide) (by (try simp only [bump]); omega) (by (try simp only [bump]); omega) (fun q27 hX => ?_)
  have hag := Ag_up (q := q27) hag (by decide : 1 ≤ 76) (by decide)
  refine J_dup hX dX10_init_185 rfl ?_
  refine J_aload_n hX dX10_init_186 rfl 0 rfl ?_
  refine J_getR hX dX10_init_187 fl_RX10_62 (by decide) lo_0 rfl (show rL lr83 0 8 = some 54 from rfl) ?_
  refine J_aload_n hX dX10_init_190 rfl 0 rfl ?_
  refine J_getR hX dX10_init_191 fl_RX10_50 (by decide) lo_0 rfl (show rL lr83 0 6 = some 26 from rfl) ?_
  refine J_callI (As := [.ref 54, .ref 26]) (st := [.ref 76, .ref 0]) hX dX10_init_194 ci_RX10_79 (by omega) (in_X5_init_76 (fun k hk => hz k (Nat.le_trans (by decide) hk))) rfl rfl (Nat.le_of_ble_eq_true rfl) (by (try simp only [bump]); omega) (by (try simp only [bump]); omega) (by simp) (by simp) (fun q28 hag2 hX => ?_)
  have hag := Ag_tr hag (by decide : 1 ≤ 77) hag2
  refine J_putRF (rL lr87) hX hin dX10_init_197 pf_RX10_82 (by decide) lo_0 rfl (fun _ => rfl) (fun _ => rfl) rL_new rL_old ?_
  exact J_returnN hX dX10_init_200 hQ (by (try simp only [bump]); omega) (by (try simp only [bump]); omega) hr hl hag)
def lr88 : List (Nat × Nat × Nat) := (78, 2, 79) :: lr87
def lr89 : List (Nat × Nat × Nat) := (78, 10, 80) :: lr88
def lr90 : List (Nat × Nat × Nat) := (78, 11, 81) :: lr89
def lr91 : List (Nat × Nat × Nat) := (78, 12, 82) :: lr90
def lr92 : List (Nat × Nat × Nat) := (78, 13, 83) :: lr91
def lr93 : List (Nat × Nat × Nat) := (78, 14, 84) :: lr92
def lr94 : List (Nat × Nat × Nat) := (78, 15, 85) :: lr93
def lr95 : List (Nat × Nat × Nat) := (78, 16, 86) :: lr94
def lr96 : List (Nat × Nat × Nat) := (78, 19, 87) :: lr95
def lr97 : List (Nat × Nat × Nat) := (78, 20, 88) :: lr96
def lr98 : List (Nat × Nat × Nat) := (78, 21, 89) :: lr97
def lr99 : List (Nat × Nat × Nat) := (78, 22, 90) :: lr98
def lr100 : List (Nat × Nat × Nat) := (78, 23, 91) :: lr99
def lr101 : List (Nat × Nat × Nat) := (78, 24, 92) :: lr100
def lr102 : List (Nat × Nat × Nat) := (78, 25, 93) :: lr101
def lr103 : List (Nat × Nat × Nat) := (78, 26, 94) :: lr102
def lr104 : List (Nat × Nat × Nat) := (78, 27, 95) :: lr103
def lr105 : List (Nat × Nat × Nat) := (78, 28, 96) :: lr104
def lr106 : List (Nat × Nat × Nat) := (78, 29, 97) :: lr105
def lr107 : List (Nat × Nat × Nat) := (78, 30, 98) :: lr106
def lr108 : List (Nat × Nat × Nat) := (78, 32, 99) :: lr107
def lr109 : List (Nat × Nat × Nat) := (78, 33, 100) :: lr108
def lr110 : List (Nat × Nat × Nat) := (78, 34, 101) :: lr109
def lr111 : List (Nat × Nat × Nat) := (78, 35, 102) :: lr110
def lr112 : List (Nat × Nat × Nat) := (78, 36, 103) :: lr111
def lr113 : List (Nat × Nat × Nat) := (78, 37, 104) :: lr112
def lr114 : List (Nat × Nat × Nat) := (78, 38, 105) :: lr113
def lr115 : List (Nat × Nat × Nat) := (78, 39, 106) :: lr114
def lr116 : List (Nat × Nat × Nat) := (78, 40, 107) :: lr115
def lr117 : List (Nat × Nat × Nat) := (78, 41, 108) :: lr116
def lr118 : List (Nat × Nat × Nat) := (78, 42, 109) :: lr117
def lr119 : List (Nat × Nat × Nat) := (78, 43, 110) :: lr118
def lr120 : List (Nat × Nat × Nat) := (78, 44, 111) :: lr119
def lr121 : List (Nat × Nat × Nat) := (78, 45, 112) :: lr120
def lr122 : List (Nat × Nat × Nat) := (78, 46, 113) :: lr121
def lr123 : List (Nat × Nat × Nat) := (78, 47, 114) :: lr122
def lr124 : List (Nat × Nat × Nat) := (78, 48, 115) :: lr123
def lr125 : List (Nat × Nat × Nat) := (78, 49, 116) :: lr124
def lr126 : List (Nat × Nat × Nat) := (78, 50, 117) :: lr125
def lr127 : List (Nat × Nat × Nat) := (78, 51, 118) :: lr126
def lr128 : List (Nat × Nat × Nat) := (78, 52, 119) :: lr127
def lr129 : List (Nat × Nat × Nat) := (78, 53, 120) :: lr128
def lr130 : List (Nat × Nat × Nat) := (78, 54, 121) :: lr129
def lr131 : List (Nat × Nat × Nat) := (78, 55, 122) :: lr130
def lr132 : List (Nat × Nat × Nat) := (78, 56, 123) :: lr131
def lr133 : List (Nat × Nat × Nat) := (78, 57, 124) :: lr132
theorem ti_X11_fresh0_L2 {X : XX} {G : GG} {ρ : Nat → Nat} {n : Nat} {d : Nat} (hX : Ok X G ρ cX11_fresh0 2 RX11 d) (hd0 : 0 ≤ d) (hn : 125 ≤ n) {mE : Mm} (hF : Fin' X G ρ n none none (rL lr133) mE) : ∀ (k : Nat) (v1 : Int32) (m : Mm), f_X11_fresh0_L2 k v1 m = some mE → J X G ρ n 2 2 [(0, .ref 78), (1, .int v1)] [] (rL lr133) m := by
  intro k
  induction k with
  | zero => intro _ _ h; rw [f_X11_fresh0_L2] at h; cases h
  | succ k ih =>
    intro v1 m h
    rw [f_X11_fresh0_L2] at h
    refine J_iload_n hX dX11_fresh0_2 rfl 1 rfl ?_
    refine J_sipush hX (374 : Int32) dX11_fresh0_3 (by decide) ?_
    refine J_icmp_ge hX 22 dX11_fresh0_6 (by decide) h (fun c h => ?_) (fun c h => ?_)
    · refine J_aload_n hX dX11_fresh0_9 rfl 0 rfl ?_
      refine J_getR hX dX11_fresh0_10 fl_RX11_125 (Nat.lt_of_lt_of_le (by decide : 78 < 125) hn) lo_78 rfl (show rL lr133 78 50 = some 117 from rfl) ?_
      refine J_iload_n hX dX11_fresh0_13 rfl 1 rfl ?_
      refine J_iconst hX (0 : Int32) dX11_fresh0_14 ic_0 ?_
      refine J_iastore hX dX11_fresh0_15 (Nat.lt_of_lt_of_le (by decide : 117 < 125) hn) lay_117 h (fun m2 h => ?_)
      refine J_iinc hX (v1 + (1 : Int32)) [(1, .int (v1 + (1 : Int32))), (0, .ref 78)] dX11_fresh0_16 1 rfl (congrArg (fun z => v1 + z) ic_1) (by decide) rfl ?_
      refine J_goto hX 2 dX11_fresh0_19 (by decide) ?_
      refine J_sub [(0, .ref 78), (1, .int (v1 + (1 : Int32)))] [1, 0] rfl ?_
      exact ih (v1 + (1 : Int32)) m2 h
    · refine J_aload_n hX dX11_fresh0_22 rfl 0 rfl ?_
      refine J_getR hX dX11_fresh0_23 fl_RX11_125 (Nat.lt_of_lt_of_le (by decide : 78 < 125) hn) lo_78 rfl (show rL lr133 78 50 = some 117 from rfl) ?_
      refine J_iconst hX (0 : Int32) dX11_fresh0_26 ic_0 ?_
      refine J_iconst hX (1 : Int32) dX11_fresh0_27 ic_1 ?_
      refine J_aload_n hX dX11_fresh0_28 rfl 0 rfl ?_
      refine J_getR hX dX11_fresh0_29 fl_RX11_13 (Nat.lt_of_lt_of_le (by decide : 78 < 125) hn) lo_78 rfl (show rL lr133 78 10 = some 80 from rfl) ?_
      refine J_iconst hX (0 : Int32) dX11_fresh0_32 ic_0 ?_
      refine J_iaload0 hX dX11_fresh0_33 (Nat.lt_of_lt_of_le (by decide : 80 < 125) hn) lay_80 (by decide) ?_
      refine J_ishl hX dX11_fresh0_34 ?_
      refine J_iconst hX (1 : Int32) dX11_fresh0_35 ic_1 ?_
      refine J_isub hX dX11_fresh0_36 ?_
      refine J_iastore0 hX dX11_fresh0_37 (Nat.lt_of_lt_of_le (by decide : 117 < 125) hn) lay_117 (by decide) h (fun m1 h => ?_)
      exact J_return hX dX11_fresh0_38 h hF
theorem ti_X11_fresh0 {X : XX} {G : GG} {ρ : Nat → Nat} {n : Nat} {d : Nat} (hX : Ok X G ρ cX11_fresh0 2 RX11 d) (hd0 : 0 ≤ d) (hn : 125 ≤ n) {mE : Mm} (hF : Fin' X G ρ n none none (rL lr133) mE) {m : Mm} (h : f_X11_fresh0 m = some mE) : J X G ρ n 2 0 [(0, .ref 78)] [] (rL lr133) m := by
  unfold f_X11_fresh0 at h
  refine J_iconst hX (0 : Int32) dX11_fresh0_0 ic_0 ?_
  refine J_istore_n hX [(1, .int (0 : Int32)), (0, .ref 78)] dX11_fresh0_1 rfl (by decide) rfl ?_
  refine J_sub [(0, .ref 78), (1, .int (0 : Int32))] [1, 0] rfl ?_
  exact ti_X11_fresh0_L2 hX hd0 hn hF FU (0 : Int32)  m h
theorem ci_X11_fresh0 {G : GG} {l : Launch} {ρ : Nat → Nat} {n : Nat} (hn : 125 ≤ n) {m : Mm} {mE : Mm} (h : f_X11_fresh0 m = some mE) : CT G l yX11_fresh0 cX11_fresh0 2 none 0 0 0 ρ n (rL lr133) [.ref 78] m none (rL lr133) mE := ct_of_J (by decide) rfl (Nat.le_of_ble_eq_true rfl) (fun X hX e1 e2 e3 e4 hQ hr hl => ti_X11_fresh0 hX (Nat.le_refl _) hn ⟨by rw [hQ, e3, e4], hr, hl⟩ h)
theorem in_X11_init_78 {G : GG} {l : Launch} {ρ : Nat → Nat} {m : Mm} (hz : ∀ k, 79 ≤ k → zeroAt m k) {m2 : Mm} (h : stI m 80 (ix (2 : Int32)) (4 : Int32) (fun m1 => f_X11_fresh0 m1) = some m2) : CN G l yX11_init cX11_init 1 1 46 9655 ρ 79 (rL lr87) [.ref 78] m 125 (rL lr133) m2 := cn_of_J (by decide) rfl rfl (Nat.le_of_ble_eq_true rfl) (fun X hX hR e2 e3 e4 hQ hr hl hin => by
  have hRc : X.1.2.2.2.1.cells = 46 := by rw [hR]; rfl
  have hRs : X.1.2.2.2.1.slots = 9655 := by rw [hR]; rfl
  have hag : Ag 79 ρ ρ := Ag_rf
  show J X G ρ 79 1 0 [(0, .ref 78)] [] (rL lr87) m
  refine J_aload_n hX dX11_init_0 rfl 0 rfl ?_
  refine J_objinit hX dX11_init_1 (by omega) oi_RX11_1 (Nat.le_of_ble_eq_true rfl) ?_
  refine J_aload_n hX dX11_init_4 rfl 0 rfl ?_
  refine J_sipush hX (1000 : Int32) dX11_init_5 (by decide) ?_
  refine J_newarr hX dX11_init_8 rfl ac_int lay_79 (Or.inl ⟨rfl, rfl⟩) (by decide) (by decide) (by decide) (rfree_ne (by decide +kernel)) (hz 79 (by decide)) (by simp) (by simp) (by decide) (by (try simp only [bump]); omega) (by (try simp only [bump]); omega) (fun q1 hX => ?_)
  have hag := Ag_up (q := q1) hag (by decide : 79 ≤ 79) (by decide)
  refine J_putRF (rL lr88) hX hin dX11_init_10 pf_RX11_7 (by decide) lo_78 rfl (fun _ => rfl) (fun _ => rfl) rL_new rL_old ?_
  refine J_aload_n hX dX11_init_13 rfl 0 rfl ?_
  refine J_bipush hX (6 : Int32) dX11_init_14 (by decide) ?_
  refine J_newarr hX dX11_init_16 rfl ac_int lay_80 (Or.inl ⟨rfl, rfl⟩) (by decide) (by decide) (by decide) (rfree_ne (by decide +kernel)) (hz 80 (by decide)) (by simp) (by simp) (by decide) (by (try simp only [bump]); omega) (by (try simp only [bump]); omega) (fun q2 hX => ?_)
  have hag := Ag_up (q := q2) hag (by decide : 79 ≤ 80) (by decide)
  refine J_putRF (rL lr89) hX hin dX11_init_18 pf_RX11_13 (by decide) lo_78 rfl (fun _ => rfl) (fun _ => rfl) rL_new rL_old ?_
  refine J_aload_n hX dX11_init_21 rfl 0 rfl ?_
  refine J_bipush hX (12 : Int32) dX11_init_22 (by decide) ?_
  refine J_newarr hX dX11_init_24 rfl ac_int lay_81 (Or.inl ⟨rfl, rfl⟩) (by decide) (by decide) (by decide) (rfree_ne (by decide +kernel)) (hz 81 (by decide)) (by simp) (by simp) (by decide) (by (try simp only [bump]); omega) (by (try simp only [bump]); omega) (fun q3 hX => ?_)
  have hag := Ag_up (q := q3) hag (by decide : 79 ≤ 81) (by decide)
  refine J_putRF (rL lr90) hX hin dX11_init_26 pf_RX11_16 (by decide) lo_78 rfl (fun _ => rfl) (fun _ => rfl) rL_new rL_old ?_
  refine J_aload_n hX dX11_init_29 rfl 0 rfl ?_
  refine J_bipush hX (12 : Int32) dX11_init_30 (by decide) ?_
  refine J_newarr hX dX11_init_32 rfl ac_int lay_82 (Or.inl ⟨rfl, rfl⟩) (by decide) (by decide) (by decide) (rfree_ne (by decide +kernel)) (hz 82 (by decide)) (by simp) (by simp) (by decide) (by (try simp only [bump]); omega) (by (try simp only [bump]); omega) (fun q4 hX => ?_)
  have hag := Ag_up (q := q4) hag (by decide : 79 ≤ 82) (by decide)
  refine J_putRF (rL lr91) hX hin dX11_init_34 pf_RX11_19 (by decide) lo_78 rfl (fun _ => rfl) (fun _ => rfl) rL_new rL_old ?_
  refine J_aload_n hX dX11_init_37 rfl 0 rfl ?_
  refine J_bipush hX (60 : Int32) dX11_init_38 (by decide) ?_
  refine J_newarr hX dX11_init_40 rfl ac_int lay_83 (Or.inl ⟨rfl, rfl⟩) (by decide) (by decide) (by decide) (rfree_ne (by decide +kernel)) (hz 83 (by decide)) (by simp) (by simp) (by decide) (by (try simp only [bump]); omega) (by (try simp only [bump]); omega) (fun q5 hX => ?_)
  have hag := Ag_up (q := q5) hag (by decide : 79 ≤ 83) (by decide)
  refine J_putRF (rL lr92) hX hin dX11_init_42 pf_RX11_22 (by decide) lo_78 rfl (fun _ => rfl) (fun _ => rfl) rL_new rL_old ?_
  refine J_aload_n hX dX11_init_45 rfl 0 rfl ?_
  refine J_iconst hX (2 : Int32) dX11_init_46 (by decide) ?_
  refine J_newarr hX dX11_init_47 rfl ac_int lay_84 (Or.inl ⟨rfl, rfl⟩) (by decide) (by decide) (by decide) (rfree_ne (by decide +kernel)) (hz 84 (by decide)) (by simp) (by simp) (by decide) (by (try simp only [bump]); omega) (by (try simp only [bump]); omega) (fun q6 hX => ?_)
  have hag := Ag_up (q := q6) hag (by decide : 79 ≤ 84) (by decide)
  refine J_putRF (rL lr93) hX hin dX11_init_49 pf_RX11_25 (by decide) lo_78 rfl (fun _ => rfl) (fun _ => rfl) rL_new rL_old ?_
  refine J_aload_n hX dX11_init_52 rfl 0 rfl ?_
  refine J_iconst hX (2 : Int32) dX11_init_53 (by decide) ?_
  refine J_newarr hX dX11_init_54 rfl ac_int lay_85 (Or.inl ⟨rfl, rfl⟩) (by decide) (by decide) (by decide) (rfree_ne (by decide +kernel)) (hz 85 (by decide)) (by simp) (by simp) (by decide) (by (try simp only [bump]); omega) (by (try simp only [bump]); omega) (fun q7 hX => ?_)
  have hag := Ag_up (q := q7) hag (by decide : 79 ≤ 85) (by decide)
  refine J_putRF (rL lr94) hX hin dX11_init_56 pf_RX11_28 (by decide) lo_78 rfl (fun _ => rfl) (fun _ => rfl) rL_new rL_old ?_
  refine J_aload_n hX dX11_init_59 rfl 0 rfl ?_
  refine J_sipush hX (2000 : Int32) dX11_init_60 (by decide) ?_
  refine J_newarr hX dX11_init_63 rfl ac_int lay_86 (Or.inl ⟨rfl, rfl⟩) (by decide) (by decide) (by decide) (rfree_ne (by decide +kernel)) (hz 86 (by decide)) (by simp) (by simp) (by decide) (by (try simp only [bump]); omega) (by (try simp only [bump]); omega) (fun q8 hX => ?_)
  have hag := Ag_up (q := q8) hag (by decide : 79 ≤ 86) (by decide)
  refine J_putRF (rL lr95) hX hin dX11_init_65 pf_RX11_31 (by decide) lo_78 rfl (fun _ => rfl) (fun _ => rfl) rL_new rL_old ?_
  refine J_aload_n hX dX11_init_68 rfl 0 rfl ?_
  refine J_bipush hX (7 : Int32) dX11_init_69 (by decide) ?_
  refine J_newarr hX dX11_init_71 rfl ac_int lay_87 (Or.inl ⟨rfl, rfl⟩) (by decide) (by decide) (by decide) (rfree_ne (by decide +kernel)) (hz 87 (by decide)) (by simp) (by simp) (by decide) (by (try simp only [bump]); omega) (by (try simp only [bump]); omega) (fun q9 hX => ?_)
  have hag := Ag_up (q := q9) hag (by decide : 79 ≤ 87) (by decide)
  refine J_putRF (rL lr96) hX hin dX11_init_73 pf_RX11_34 (by decide) lo_78 rfl (fun _ => rfl) (fun _ => rfl) rL_new rL_old ?_
  refine J_aload_n hX dX11_init_76 rfl 0 rfl ?_
  refine J_bipush hX (7 : Int32) dX11_init_77 (by decide) ?_
  refine J_newarr hX dX11_init_79 rfl ac_boolean lay_88 (Or.inr (Or.inr (Or.inl ⟨rfl, rfl⟩))) (by decide) (by decide) (by decide) (rfree_ne (by decide +kernel)) (hz 88 (by decide)) (by simp) (by simp) (by decide) (by (try simp only [bump]); omega) (by (try simp only [bump]); omega) (fun q10 hX => ?_)
  have hag := Ag_up (q := q10) hag (by decide : 79 ≤ 88) (by decide)
  refine J_putRF (rL lr97) hX hin dX11_init_81 pf_RX11_37 (by decide) lo_78 rfl (fun _ => rfl) (fun _ => rfl) rL_new rL_old ?_
  refine J_aload_n hX dX11_init_84 rfl 0 rfl ?_
  refine J_bipush hX (7 : Int32) dX11_init_85 (by decide) ?_
  refine J_newarr hX dX11_init_87 rfl ac_int lay_89 (Or.inl ⟨rfl, rfl⟩) (by decide) (by decide) (by decide) (rfree_ne (by decide +kernel)) (hz 89 (by decide)) (by simp) (by simp) (by decide) (by (try simp only [bump]); omega) (by (try simp only [bump]); omega) (fun q11 hX => ?_)
  have hag := Ag_up (q := q11) hag (by decide : 79 ≤ 89) (by decide)
  refine J_putRF (rL lr98) hX hin dX11_init_89 pf_RX11_41 (by decide) lo_78 rfl (fun _ => rfl) (fun _ => rfl) rL_new rL_old ?_
  refine J_aload_n hX dX11_init_92 rfl 0 rfl ?_
  refine J_bipush hX (7 : Int32) dX11_init_93 (by decide) ?_
  refine J_newarr hX dX11_init_95 rfl ac_int lay_90 (Or.inl ⟨rfl, rfl⟩) (by decide) (by decide) (by decide) (rfree_ne (by decide +kernel)) (hz 90 (by decide)) (by simp) (by simp) (by decide) (by (try simp only [bump]); omega) (by (try simp only [bump]); omega) (fun q12 hX => ?_)
  have hag := Ag_up (q := q12) hag (by decide : 79 ≤ 90) (by decide)
  refine J_putRF (rL lr99) hX hin dX11_init_97 pf_RX11_44 (by decide) lo_78 rfl (fun _ => rfl) (fun _ => rfl) rL_new rL_old ?_
  refine J_aload_n hX dX11_init_100 rfl 0 rfl ?_
  refine J_bipush hX (7 : Int32) dX11_init_101 (by decide) ?_
  refine J_newarr hX dX11_init_103 rfl ac_int lay_91 (Or.inl ⟨rfl, rfl⟩) (by decide) (by decide) (by decide) (rfree_ne (by decide +kernel)) (hz 91 (by decide)) (by simp) (by simp) (by decide) (by (try simp only [bump]); omega) (by (try simp only [bump]); omega) (fun q13 hX => ?_)
  have hag := Ag_up (q := q13) hag (by decide : 79 ≤ 91) (by decide)
  refine J_putRF (rL lr100) hX hin dX11_init_105 pf_RX11_47 (by decide) lo_78 rfl (fun _ => rfl) (fun _ => rfl) rL_new rL_old ?_
  refine J_aload_n hX dX11_init_108 rfl 0 rfl ?_
  refine J_bipush hX (7 : Int32) dX11_init_109 (by decide) ?_
  refine J_newarr hX dX11_init_111 rfl ac_int lay_92 (Or.inl ⟨rfl, rfl⟩) (by decide) (by decide) (by decide) (rfree_ne (by decide +kernel)) (hz 92 (by decide)) (by simp) (by simp) (by decide) (by (try simp only [bump]); omega) (by (try simp only [bump]); omega) (fun q14 hX => ?_)
  have hag := Ag_up (q := q14) hag (by decide : 79 ≤ 92) (by decide)
  refine J_putRF (rL lr101) hX hin dX11_init_113 pf_RX11_50 (by decide) lo_78 rfl (fun _ => rfl) (fun _ => rfl) rL_new rL_old ?_
  refine J_aload_n hX dX11_init_116 rfl 0 rfl ?_
  refine J_bipush hX (7 : Int32) dX11_init_117 (by decide) ?_
  refine J_newarr hX dX11_init_119 rfl ac_int lay_93 (Or.inl ⟨rfl, rfl⟩) (by decide) (by decide) (by decide) (rfree_ne (by decide +kernel)) (hz 93 (by decide)) (by simp) (by simp) (by decide) (by (try simp only [bump]); omega) (by (try simp only [bump]); omega) (fun q15 hX => ?_)
  have hag := Ag_up (q := q15) hag (by decide : 79 ≤ 93) (by decide)
  refine J_putRF (rL lr102) hX hin dX11_init_121 pf_RX11_53 (by decide) lo_78 rfl (fun _ => rfl) (fun _ => rfl) rL_new rL_old ?_
  refine J_aload_n hX dX11_init_124 rfl 0 rfl ?_
  refine J_bipush hX (7 : Int32) dX11_init_125 (by decide) ?_
  refine J_newarr hX dX11_init_127 rfl ac_int lay_94 (Or.inl ⟨rfl, rfl⟩) (by decide) (by decide) (by decide) (rfree_ne (by decide +kernel)) (hz 94 (by decide)) (by simp) (by simp) (by decide) (by (try simp only [bump]); omega) (by (try simp only [bump]); omega) (fun q16 hX => ?_)
  have hag := Ag_up (q := q16) hag (by decide : 79 ≤ 94) (by decide)
  refine J_putRF (rL lr103) hX hin dX11_init_129 pf_RX11_56 (by decide) lo_78 rfl (fun _ => rfl) (fun _ => rfl) rL_new rL_old ?_
  refine J_aload_n hX dX11_init_132 rfl 0 rfl ?_
  refine J_bipush hX (7 : Int32) dX11_init_133 (by decide) ?_
  refine J_newarr hX dX11_init_135 rfl ac_int lay_95 (Or.inl ⟨rfl, rfl⟩) (by decide) (by decide) (by decide) (rfree_ne (by decide +kernel)) (hz 95 (by decide)) (by simp) (by simp) (by decide) (by (try simp only [bump]); omega) (by (try simp only [bump]); omega) (fun q17 hX => ?_)
  have hag := Ag_up (q := q17) hag (by decide : 79 ≤ 95) (by decide)
  refine J_putRF (rL lr104) hX hin dX11_init_137 pf_RX11_59 (by decide) lo_78 rfl (fun _ => rfl) (fun _ => rfl) rL_new rL_old ?_
  refine J_aload_n hX dX11_init_140 rfl 0 rfl ?_
  refine J_bipush hX (7 : Int32) dX11_init_141 (by decide) ?_
  refine J_newarr hX dX11_init_143 rfl ac_int lay_96 (Or.inl ⟨rfl, rfl⟩) (by decide) (by decide) (by decide) (rfree_ne (by decide +kernel)) (hz 96 (by decide)) (by simp) (by simp) (by decide) (by (try simp only [bump]); omega) (by (try simp only [bump]); omega) (fun q18 hX => ?_)
  have hag := Ag_up (q := q18) hag (by decide : 79 ≤ 96) (by decide)
  refine J_putRF (rL lr105) hX hin dX11_init_145 pf_RX11_62 (by decide) lo_78 rfl (fun _ => rfl) (fun _ => rfl) rL_new rL_old ?_
  refine J_aload_n hX dX11_init_148 rfl 0 rfl ?_
  refine J_bipush hX (7 : Int32) dX11_init_149 (by decide) ?_
  refine J_newarr hX dX11_init_151 rfl ac_int lay_97 (Or.inl ⟨rfl, rfl⟩) (by decide) (by decide) (by decide) (rfree_ne (by decide +kernel)) (hz 97 (by decide)) (by simp) (by simp) (by decide) (by (try simp only [bump]); omega) (by (try simp only [bump]); omega) (fun q19 hX => ?_)
  have hag := Ag_up (q := q19) hag (by decide : 79 ≤ 97) (by decide)
  refine J_putRF (rL lr106) hX hin dX11_init_153 pf_RX11_65 (by decide) lo_78 rfl (fun _ => rfl) (fun _ => rfl) rL_new rL_old ?_
  refine J_aload_n hX dX11_init_156 rfl 0 rfl ?_
  refine J_bipush hX (20 : Int32) dX11_init_157 (by decide) ?_
  refine J_newarr hX dX11_init_159 rfl ac_int lay_98 (Or.inl ⟨rfl, rfl⟩) (by decide) (by decide) (by decide) (rfree_ne (by decide +kernel)) (hz 98 (by decide)) (by simp) (by simp) (by decide) (by (try simp only [bump]); omega) (by (try simp only [bump]); omega) (fun q20 hX => ?_)
  have hag := Ag_up (q := q20) hag (by decide : 79 ≤ 98) (by decide)
  refine J_putRF (rL lr107) hX hin dX11_init_161 pf_RX11_68 (by decide) lo_78 rfl (fun _ => rfl) (fun _ => rfl) rL_new rL_old ?_
  refine J_aload_n hX dX11_init_164 rfl 0 rfl ?_
  refine J_iconst hX (2 : Int32) dX11_init_165 (by decide) ?_
  refine J_newarr hX dX11_init_166 rfl ac_int lay_99 (Or.inl ⟨rfl, rfl⟩) (by decide) (by decide) (by decide) (rfree_ne (by decide +kernel)) (hz 99 (by decide)) (by simp) (by simp) (by decide) (by (try simp only [bump]); omega) (by (try simp only [bump]); omega) (fun q21 hX => ?_)
  have hag := Ag_up (q := q21) hag (by decide : 79 ≤ 99) (by decide)
  refine J_putRF (rL lr108) hX hin dX11_init_168 pf_RX11_71 (by decide) lo_78 rfl (fun _ => rfl) (fun _ => rfl) rL_new rL_old ?_
  refine J_aload_n hX dX11_init_171 rfl 0 rfl ?_
  refine J_bipush hX (80 : Int32) dX11_init_172 (by decide) ?_
  refine J_newarr hX dX11_init_174 rfl ac_int lay_100 (Or.inl ⟨rfl, rfl⟩) (by decide) (by decide) (by decide) (rfree_ne (by decide +kernel)) (hz 100 (by decide)) (by simp) (by simp) (by decide) (by (try simp only [bump]); omega) (by (try simp only [bump]); omega) (fun q22 hX => ?_)
  have hag := Ag_up (q := q22) hag (by decide : 79 ≤ 100) (by decide)
  refine J_putRF (rL lr109) hX hin dX11_init_176 pf_RX11_74 (by decide) lo_78 rfl (fun _ => rfl) (fun _ => rfl) rL_new rL_old ?_
  refine J_aload_n hX dX11_init_179 rfl 0 rfl ?_
  refine J_bipush hX (80 : Int32) dX11_init_180 (by decide) ?_
  refine J_newarr hX dX11_init_182 rfl ac_int lay_101 (Or.inl ⟨rfl, rfl⟩) (by decide) (by decide) (by decide) (rfree_ne (by decide +kernel)) (hz 101 (by decide)) (by simp) (by simp) (by decide) (by (try simp only [bump]); omega) (by (try simp only [bump]); omega) (fun q23 hX => ?_)
  have hag := Ag_up (q := q23) hag (by decide : 79 ≤ 101) (by decide)
  refine J_putRF (rL lr110) hX hin dX11_init_184 pf_RX11_77 (by decide) lo_78 rfl (fun _ => rfl) (fun _ => rfl) rL_new rL_old ?_
  refine J_aload_n hX dX11_init_187 rfl 0 rfl ?_
  refine J_bipush hX (80 : Int32) dX11_init_188 (by decide) ?_
  refine J_newarr hX dX11_init_190 rfl ac_int lay_102 (Or.inl ⟨rfl, rfl⟩) (by decide) (by decide) (by decide) (rfree_ne (by decide +kernel)) (hz 102 (by decide)) (by simp) (by simp) (by decide) (by (try simp only [bump]); omega) (by (try simp only [bump]); omega) (fun q24 hX => ?_)
  have hag := Ag_up (q := q24) hag (by decide : 79 ≤ 102) (by decide)
  refine J_putRF (rL lr111) hX hin dX11_init_192 pf_RX11_80 (by decide) lo_78 rfl (fun _ => rfl) (fun _ => rfl) rL_new rL_old ?_
  refine J_aload_n hX dX11_init_195 rfl 0 rfl ?_
  refine J_bipush hX (80 : Int32) dX11_init_196 (by decide) ?_
  refine J_newarr hX dX11_init_198 rfl ac_int lay_103 (Or.inl ⟨rfl, rfl⟩) (by decide) (by decide) (by decide) (rfree_ne (by decide +kernel)) (hz 103 (by decide)) (by simp) (by simp) (by decide) (by (try simp only [bump]); omega) (by (try simp only [bump]); omega) (fun q25 hX => ?_)
  have hag := Ag_up (q := q25) hag (by decide : 79 ≤ 103) (by decide)
  refine J_putRF (rL lr112) hX hin dX11_init_200 pf_RX11_83 (by decide) lo_78 rfl (fun _ => rfl) (fun _ => rfl) rL_new rL_old ?_
  refine J_aload_n hX dX11_init_203 rfl 0 rfl ?_
  refine J_bipush hX (80 : Int32) dX11_init_204 (by decide) ?_
  refine J_newarr hX dX11_init_206 rfl ac_int lay_104 (Or.inl ⟨rfl, rfl⟩) (by decide) (by decide) (by decide) (rfree_ne (by decide +kernel)) (hz 104 (by decide)) (by simp) (by simp) (by decide) (by (try simp only [bump]); omega) (by (try simp only [bump]); omega) (fun q26 hX => ?_)
  have hag := Ag_up (q := q26) hag (by decide : 79 ≤ 104) (by decide)
  refine J_putRF (rL lr113) hX hin dX11_init_208 pf_RX11_86 (by decide) lo_78 rfl (fun _ => rfl) (fun _ => rfl) rL_new rL_old ?_
  refine J_aload_n hX dX11_init_211 rfl 0 rfl ?_
  refine J_sipush hX (400 : Int32) dX11_init_212 (by decide) ?_
  refine J_newarr hX dX11_init_215 rfl ac_int lay_105 (Or.inl ⟨rfl, rfl⟩) (by decide) (by decide) (by decide) (rfree_ne (by decide +kernel)) (hz 105 (by decide)) (by simp) (by simp) (by decide) (by (try simp only [bump]); omega) (by (try simp only [bump]); omega) (fun q27 hX => ?_)
  have hag := Ag_up (q := q27) hag (by decide : 79 ≤ 105) (by decide)
  refine J_putRF (rL lr114) hX hin dX11_init_217 pf_RX11_89 (by decide) lo_78 rfl (fun _ => rfl) (fun _ => rfl) rL_new rL_old ?_
  refine J_aload_n hX dX11_init_220 rfl 0 rfl ?_
  refine J_sipush hX (400 : Int32) dX11_init_221 (by decide) ?_
  refine J_newarr hX dX11_init_224 rfl ac_int lay_106 (Or.inl ⟨rfl, rfl⟩) (by decide) (by decide) (by decide) (rfree_ne (by decide +kernel)) (hz 106 (by decide)) (by simp) (by simp) (by decide) (by (try simp only [bump]); omega) (by (try simp only [bump]); omega) (fun q28 hX => ?_)
  have hag := Ag_up (q := q28) hag (by decide : 79 ≤ 106) (by decide)
  refine J_putRF (rL lr115) hX hin dX11_init_226 pf_RX11_92 (by decide) lo_78 rfl (fun _ => rfl) (fun _ => rfl) rL_new rL_old ?_
  refine J_aload_n hX dX11_init_229 rfl 0 rfl ?_
  refine J_sipush hX (320 : Int32) dX11_init_230 (by decide) ?_
  refine J_newarr hX dX11_init_233 rfl ac_int lay_107 (Or.inl ⟨rfl, rfl⟩) (by decide) (by decide) (by decide) (rfree_ne (by decide +kernel)) (hz 107 (by decide)) (by simp) (by simp) (by decide) (by (try simp only [bump]); omega) (by (try simp only [bump]); omega) (fun q29 hX => ?_)
  have hag := Ag_up (q := q29) hag (by decide : 79 ≤ 107) (by decide)
  refine J_putRF (rL lr116) hX hin dX11_init_235 pf_RX11_95 (by decide) lo_78 rfl (fun _ => rfl) (fun _ => rfl) rL_new rL_old ?_
  refine J_aload_n hX dX11_init_238 rfl 0 rfl ?_
  refine J_iconst hX (2 : Int32) dX11_init_239 (by decide) ?_
  refine J_newarr hX dX11_init_240 rfl ac_int lay_108 (Or.inl ⟨rfl, rfl⟩) (by decide) (by decide) (by decide) (rfree_ne (by decide +kernel)) (hz 108 (by decide)) (by simp) (by simp) (by decide) (by (try simp only [bump]); omega) (by (try simp only [bump]); omega) (fun q30 hX => ?_)
  have hag := Ag_up (q := q30) hag (by decide : 79 ≤ 108) (by decide)
  refine J_putRF (rL lr117) hX hin dX11_init_242 pf_RX11_98 (by decide) lo_78 rfl (fun _ => rfl) (fun _ => rfl) rL_new rL_old ?_
  refine J_aload_n hX dX11_init_245 rfl 0 rfl ?_
  refine J_sipush hX (400 : Int32) dX11_init_246 (by decide) ?_
  refine J_newarr hX dX11_init_249 rfl ac_int lay_109 (Or.inl ⟨rfl, rfl⟩) (by decide) (by decide) (by decide) (rfree_ne (by decide +kernel)) (hz 109 (by decide)) (by simp) (by simp) (by decide) (by (try simp only [bump]); omega) (by (try simp only [bump]); omega) (fun q31 hX => ?_)
  have hag := Ag_up (q := q31) hag (by decide : 79 ≤ 109) (by decide)
  refine J_putRF (rL lr118) hX hin dX11_init_251 pf_RX11_101 (by decide) lo_78 rfl (fun _ => rfl) (fun _ => rfl) rL_new rL_old ?_
  refine J_aload_n hX dX11_init_254 rfl 0 rfl ?_
  refine J_iconst hX (4 : Int32) dX11_init_255 (by decide) ?_
  refine J_newarr hX dX11_init_256 rfl ac_int lay_110 (Or.inl ⟨rfl, rfl⟩) (by decide) (by decide) (by decide) (rfree_ne (by decide +kernel)) (hz 110 (by decide)) (by simp) (by simp) (by decide) (by (try simp only [bump]); omega) (by (try simp only [bump]); omega) (fun q32 hX => ?_)
  have hag := Ag_up (q := q32) hag (by decide : 79 ≤ 110) (by decide)
  refine J_putRF (rL lr119) hX hin dX11_init_258 pf_RX11_104 (by decide) lo_78 rfl (fun _ => rfl) (fun _ => rfl) rL_new rL_old ?_
  refine J_aload_n hX dX11_init_261 rfl 0 rfl ?_
  refine J_sipush hX (160 : Int32) dX11_init_262 (by decide) ?_
  refine J_newarr hX dX11_init_265 rfl ac_int lay_111 (Or.inl ⟨rfl, rfl⟩) (by decide) (by decide) (by decide) (rfree_ne (by decide +kernel)) (hz 111 (by decide)) (by simp) (by simp) (by decide) (by (try simp only [bump]); omega) (by (try simp only [bump]); omega) (fun q33 hX => ?_)
  have hag := Ag_up (q := q33) hag (by decide : 79 ≤ 111) (by decide)
  refine J_putRF (rL lr120) hX hin dX11_init_267 pf_RX11_107 (by decide) lo_78 rfl (fun _ => rfl) (fun _ => rfl) rL_new rL_old ?_
  refine J_aload_n hX dX11_init_270 rfl 0 rfl ?_
  refine J_sipush hX (160 : Int32) dX11_init_271 (by decide) ?_
  refine J_newarr hX dX11_init_274 rfl ac_int lay_112 (Or.inl ⟨rfl, rfl⟩) (by decide) (by decide) (by decide) (rfree_ne (by decide +kernel)) (hz 112 (by decide)) (by simp) (by simp) (by decide) (by (try simp only [bump]); omega) (by (try simp only [bump]); omega) (fun q34 hX => ?_)
  have hag := Ag_up (q := q34) hag (by decide : 79 ≤ 112) (by decide)
  refine J_putRF (rL lr121) hX hin dX11_init_276 pf_RX11_110 (by decide) lo_78 rfl (fun _ => rfl) (fun _ => rfl) rL_new rL_old ?_
  refine J_aload_n hX dX11_init_279 rfl 0 rfl ?_
  refine J_sipush hX (160 : Int32) dX11_init_280 (by decide) ?_
  refine J_newarr hX dX11_init_283 rfl ac_int lay_113 (Or.inl ⟨rfl, rfl⟩) (by decide) (by decide) (by decide) (rfree_ne (by decide +kernel)) (hz 113 (by decide)) (by simp) (by simp) (by decide) (by (try simp only [bump]); omega) (by (try simp only [bump]); omega) (fun q35 hX => ?_)
  have hag := Ag_up (q := q35) hag (by decide : 79 ≤ 113) (by decide)
  refine J_putRF (rL lr122) hX hin dX11_init_285 pf_RX11_113 (by decide) lo_78 rfl (fun _ => rfl) (fun _ => rfl) rL_new rL_old ?_
  refine J_aload_n hX dX11_init_288 rfl 0 rfl ?_
  refine J_iconst hX (3 : Int32) dX11_init_289 (by decide) ?_
  refine J_newarr hX dX11_init_290 rfl ac_int lay_114 (Or.inl ⟨rfl, rfl⟩) (by decide) (by decide) (by decide) (rfree_ne (by decide +kernel)) (hz 114 (by decide)) (by simp) (by simp) (by decide) (by (try simp only [bump]); omega) (by (try simp only [bump]); omega) (fun q36 hX => ?_)
  have hag := Ag_up (q := q36) hag (by decide : 79 ≤ 114) (by decide)
  refine J_putRF (rL lr123) hX hin dX11_init_292 pf_RX11_116 (by decide) lo_78 rfl (fun _ => rfl) (fun _ => rfl) rL_new rL_old ?_
  refine J_aload_n hX dX11_init_295 rfl 0 rfl ?_
  refine J_bipush hX (24 : Int32) dX11_init_296 (by decide) ?_
  refine J_newarr hX dX11_init_298 rfl ac_int lay_115 (Or.inl ⟨rfl, rfl⟩) (by decide) (by decide) (by decide) (rfree_ne (by decide +kernel)) (hz 115 (by decide)) (by simp) (by simp) (by decide) (by (try simp only [bump]); omega) (by (try simp only [bump]); omega) (fun q37 hX => ?_)
  have hag := Ag_up (q := q37) hag (by decide : 79 ≤ 115) (by decide)
  refine J_putRF (rL lr124) hX hin dX11_init_300 pf_RX11_119 (by decide) lo_78 rfl (fun _ => rfl) (fun _ => rfl) rL_new rL_old ?_
  refine J_aload_n hX dX11_init_303 rfl 0 rfl ?_
  refine J_bipush hX (24 : Int32) dX11_init_304 (by decide) ?_
  refine J_newarr hX dX11_init_306 rfl ac_boolean lay_116 (Or.inr (Or.inr (Or.inl ⟨rfl, rfl⟩))) (by decide) (by decide) (by decide) (rfree_ne (by decide +kernel)) (hz 116 (by decide)) (by simp) (by simp) (by decide) (by (try simp only [bump]); omega) (by (try simp only [bump]); omega) (fun q38 hX => ?_)
  have hag := Ag_up (q := q38) hag (by decide : 79 ≤ 116) (by decide)
  refine J_putRF (rL lr125) hX hin dX11_init_308 pf_RX11_122 (by decide) lo_78 rfl (fun _ => rfl) (fun _ => rfl) rL_new rL_old ?_
  refine J_aload_n hX dX11_init_311 rfl 0 rfl ?_
  refine J_sipush hX (374 : Int32) dX11_init_312 (by decide) ?_
  refine J_newarr hX dX11_init_315 rfl ac_int lay_117 (Or.inl ⟨rfl, rfl⟩) (by decide) (by decide) (by decide) (rfree_ne (by decide +kernel)) (hz 117 (by decide)) (by simp) (by simp) (by decide) (by (try simp only [bump]); omega) (by (try simp only [bump]); omega) (fun q39 hX => ?_)
  have hag := Ag_up (q := q39) hag (by decide : 79 ≤ 117) (by decide)
  refine J_putRF (rL lr126) hX hin dX11_init_317 pf_RX11_125 (by decide) lo_78 rfl (fun _ => rfl) (fun _ => rfl) rL_new rL_old ?_
  refine J_aload_n hX dX11_init_320 rfl 0 rfl ?_
  refine J_sipush hX (374 : Int32) dX11_init_321 (by decide) ?_
  refine J_newarr hX dX11_init_324 rfl ac_int lay_118 (Or.inl ⟨rfl, rfl⟩) (by decide) (by decide) (by decide) (rfree_ne (by decide +kernel)) (hz 118 (by decide)) (by simp) (by simp) (by decide) (by (try simp only [bump]); omega) (by (try simp only [bump]); omega) (fun q40 hX => ?_)
  have hag := Ag_up (q := q40) hag (by decide : 79 ≤ 118) (by decide)
  refine J_putRF (rL lr127) hX hin dX11_init_326 pf_RX11_128 (by decide) lo_78 rfl (fun _ => rfl) (fun _ => rfl) rL_new rL_old ?_
  refine J_aload_n hX dX11_init_329 rfl 0 rfl ?_
  refine J_sipush hX (374 : Int32) dX11_init_330 (by decide) ?_
  refine J_newarr hX dX11_init_333 rfl ac_int lay_119 (Or.inl ⟨rfl, rfl⟩) (by decide) (by decide) (by decide) (rfree_ne (by decide +kernel)) (hz 119 (by decide)) (by simp) (by simp) (by decide) (by (try simp only [bump]); omega) (by (try simp only [bump]); omega) (fun q41 hX => ?_)
  have hag := Ag_up (q := q41) hag (by decide : 79 ≤ 119) (by decide)
  refine J_putRF (rL lr128) hX hin dX11_init_335 pf_RX11_131 (by decide) lo_78 rfl (fun _ => rfl) (fun _ => rfl) rL_new rL_old ?_
  refine J_aload_n hX dX11_init_338 rfl 0 rfl ?_
  refine J_sipush hX (748 : Int32) dX11_init_339 (by decide) ?_
  refine J_newarr hX dX11_init_342 rfl ac_int lay_120 (Or.inl ⟨rfl, rfl⟩) (by decide) (by decide) (by decide) (rfree_ne (by decide +kernel)) (hz 120 (by decide)) (by simp) (by simp) (by decide) (by (try simp only [bump]); omega) (by (try simp only [bump]); omega) (fun q42 hX => ?_)
  have hag := Ag_up (q := q42) hag (by decide : 79 ≤ 120) (by decide)
  refine J_putRF (rL lr129) hX hin dX11_init_344 pf_RX11_134 (by decide) lo_78 rfl (fun _ => rfl) (fun _ => rfl) rL_new rL_old ?_
  refine J_aload_n hX dX11_init_347 rfl 0 rfl ?_
  refine J_iconst hX (2 : Int32) dX11_init_348 (by decide) ?_
  refine J_newarr hX dX11_init_349 rfl ac_boolean lay_121 (Or.inr (Or.inr (Or.inl ⟨rfl, rfl⟩))) (by decide) (by decide) (by decide) (rfree_ne (by decide +kernel)) (hz 121 (by decide)) (by simp) (by simp) (by decide) (by (try simp only [bump]); omega) (by (try simp only [bump]); omega) (fun q43 hX => ?_)
  have hag := Ag_up (q := q43) hag (by decide : 79 ≤ 121) (by decide)
  refine J_putRF (rL lr130) hX hin dX11_init_351 pf_RX11_137 (by decide) lo_78 rfl (fun _ => rfl) (fun _ => rfl) rL_new rL_old ?_
  refine J_aload_n hX dX11_init_354 rfl 0 rfl ?_
  refine J_bipush hX (40 : Int32) dX11_init_355 (by decide) ?_
  refine J_newarr hX dX11_init_357 rfl ac_boolean lay_122 (Or.inr (Or.inr (Or.inl ⟨rfl, rfl⟩))) (by decide) (by decide) (by decide) (rfree_ne (by decide +kernel)) (hz 122 (by decide)) (by simp) (by simp) (by decide) (by (try simp only [bump]); omega) (by (try simp only [bump]); omega) (fun q44 hX => ?_)
  have hag := Ag_up (q := q44) hag (by decide : 79 ≤ 122) (by decide)
  refine J_putRF (rL lr131) hX hin dX11_init_359 pf_RX11_140 (by decide) lo_78 rfl (fun _ => rfl) (fun _ => rfl) rL_new rL_old ?_
  refine J_aload_n hX dX11_init_362 rfl 0 rfl ?_
  refine J_bipush hX (13 : Int32) dX11_init_363 (by decide) ?_
  refine J_newarr hX dX11_init_365 rfl ac_int lay_123 (Or.inl ⟨rfl, rfl⟩) (by decide) (by decide) (by decide) (rfree_ne (by decide +kernel)) (hz 123 (by decide)) (by simp) (by simp) (by decide) (by (try simp only [bump]); omega) (by (try simp only [bump]); omega) (fun q45 hX => ?_)
  have hag := Ag_up (q := q45) hag (by decide : 79 ≤ 123) (by decide)
  refine J_putRF (rL lr132) hX hin dX11_init_367 pf_RX11_143 (by decide) lo_78 rfl (fun _ => rfl) (fun _ => rfl) rL_new rL_old ?_
  refine J_aload_n hX dX11_init_370 rfl 0 rfl ?_
  refine J_sipush hX (2080 : Int32) dX11_init_371 (by decide) ?_
  refine J_newarr hX dX11_init_374 rfl ac_boolean lay_124 (Or.inr (Or.inr (Or.inl ⟨rfl, rfl⟩))) (by decide) (by decide) (by decide) (rfree_ne (by decide +kernel)) (hz 124 (by decide)) (by simp) (by simp) (by decide) (by (try simp only [bump]); omega) (by (try simp only [bump]); omega) (fun q46 hX => ?_)
  have hag := Ag_up (q := q46) hag (by decide : 79 ≤ 124) (by decide)
  refine J_putRF (rL lr133) hX hin dX11_init_376 pf_RX11_146 (by decide) lo_78 rfl (fun _ => rfl) (fun _ => rfl) rL_new rL_old ?_
  refine J_aload_n hX dX11_init_379 rfl 0 rfl ?_
  refine J_getR hX dX11_init_380 fl_RX11_13 (by decide) lo_78 rfl (show rL lr133 78 10 = some 80 from rfl) ?_
  refine J_iconst hX (2 : Int32) dX11_init_383 (by decide) ?_
  refine J_iconst hX (4 : Int32) dX11_init_384 (by decide) ?_
  refine J_iastore0 hX dX11_init_385 (by decide) lay_80 (by decide) h (fun m1 h => ?_)
  refine J_aload_n hX dX11_init_386 rfl 0 rfl ?_
  refine J_callVv (As := []) (st := []) hX dX11_init_387 cw_RX11_149 (by omega) (ci_X11_fresh0 (by decide) h) (by decide) lo_78 (by decide) rfl rfl rfl (Nat.le_of_ble_eq_true rfl) ?_
  exact J_returnN hX dX11_init_390 hQ (by (try simp only [bump]); omega) (by (try simp only [bump]); omega) hr hl hag)
