def FU : Nat := 4096
theorem ltn {a n : Nat} (h : a < 126) (hn : 126 ≤ n) : a < n := Nat.lt_of_lt_of_le h hn
def isSt (a : Nat) : Prop := a = 54 ∨ a = 59 ∨ a = 65 ∨ a = 70
def isLa (a : Nat) : Prop := a = 26 ∨ a = 40
def isTo (a : Nat) : Prop := a = 4 ∨ a = 11
def isWk (a : Nat) : Prop := a = 18 ∨ a = 22
def isLw (a : Nat) : Prop := a = 8 ∨ a = 15
def isIa (a : Nat) : Prop := (lay a).1 = 12 ∧ a < 126
def isTx (a : Nat) : Prop := 1000 ≤ a ∧ a < 1023
theorem layIa {a : Nat} (h : isIa a) : lay a = (12, (lay a).2) := by rw [← h.1]
theorem isLw_isTo {a : Nat} (h : isTo a) : isLw (a + 4) := by rcases h with rfl | rfl <;> simp [isLw]
theorem isB_nar {v : Int32} (h : isB v = true) : narrow .boolean (.int v) = .int v := by
  simp only [isB, Bool.or_eq_true, decide_eq_true_eq] at h
  rcases h with rfl | rfl <;> rfl
theorem vz0 : vp_nar .boolean 0 = 0 := rfl
theorem vz1 : vp_nar .boolean 1 = 1 := rfl
theorem vzB {v : Int32} (h : isB v = true) : vp_nar .boolean v = v := by
  simp only [isB, Bool.or_eq_true, decide_eq_true_eq] at h
  rcases h with rfl | rfl <;> rfl
section Call2
variable {X : XX} {G : GG} {ρ : Nat → Nat} {n : Nat} {cc : ByteArray} {nL : Nat} {own : String} {d pc : Nat} {lv : List (Nat × Value)} {stk st As : List Value} {rt rt2 : Rt} {m m2 : Mm} {idx ci b na d1 nL1 : Nat} {y : MethodName} {cc1 : ByteArray} {ret : Option FieldType} {C : String}
theorem J_callVi {r : Int32} (hX : Ok X G ρ cc nL own d) (hd : decode cc pc = .ok (.invokevirtual idx, 3)) (hw : CwV own idx C y cc1 nL1 ret na) (hd1 : d1 + 1 ≤ d) (hct : CT G X.1.2.1 y cc1 nL1 ret d1 0 0 ρ n rt (.ref b :: As) m (some (.int r)) rt2 m2) (hb : b < n) (hlb : (lay b).1 = ci) (hci : ci < 11) (hC : (vwCl[ci]?).map (·.1) = some C) (hna : As.length = na) (hs : stk = As.reverse ++ .ref b :: st) (hcat : (st.map fun v => v.category).sum ≤ 8)
    (k : J X G ρ n nL (pc + 3) lv (.int r :: st) rt2 m2) : J X G ρ n nL pc lv stk rt m := J_callV (ov := some (.int r)) hX hd hw hd1 hct hb hlb hci hC hna hs hcat k
theorem J_callVl {r : Int64} (hX : Ok X G ρ cc nL own d) (hd : decode cc pc = .ok (.invokevirtual idx, 3)) (hw : CwV own idx C y cc1 nL1 ret na) (hd1 : d1 + 1 ≤ d) (hct : CT G X.1.2.1 y cc1 nL1 ret d1 0 0 ρ n rt (.ref b :: As) m (some (.long r)) rt2 m2) (hb : b < n) (hlb : (lay b).1 = ci) (hci : ci < 11) (hC : (vwCl[ci]?).map (·.1) = some C) (hna : As.length = na) (hs : stk = As.reverse ++ .ref b :: st) (hcat : (st.map fun v => v.category).sum ≤ 8)
    (k : J X G ρ n nL (pc + 3) lv (.long r :: st) rt2 m2) : J X G ρ n nL pc lv stk rt m := J_callV (ov := some (.long r)) hX hd hw hd1 hct hb hlb hci hC hna hs hcat k
theorem J_callVv (hX : Ok X G ρ cc nL own d) (hd : decode cc pc = .ok (.invokevirtual idx, 3)) (hw : CwV own idx C y cc1 nL1 ret na) (hd1 : d1 + 1 ≤ d) (hct : CT G X.1.2.1 y cc1 nL1 ret d1 0 0 ρ n rt (.ref b :: As) m none rt2 m2) (hb : b < n) (hlb : (lay b).1 = ci) (hci : ci < 11) (hC : (vwCl[ci]?).map (·.1) = some C) (hna : As.length = na) (hs : stk = As.reverse ++ .ref b :: st) (hcat : (st.map fun v => v.category).sum ≤ 8)
    (k : J X G ρ n nL (pc + 3) lv st rt2 m2) : J X G ρ n nL pc lv stk rt m := J_callV (ov := none) hX hd hw hd1 hct hb hlb hci hC hna hs hcat k
theorem J_callSi {r : Int32} (hX : Ok X G ρ cc nL own d) (hd : decode cc pc = .ok (.invokestatic idx, 3)) (hw : CwS own idx y cc1 nL1 ret na) (hd1 : d1 + 1 ≤ d) (hct : CT G X.1.2.1 y cc1 nL1 ret d1 0 0 ρ n rt As m (some (.int r)) rt2 m2) (hna : As.length = na) (hs : stk = As.reverse ++ st) (hcat : (st.map fun v => v.category).sum ≤ 8)
    (k : J X G ρ n nL (pc + 3) lv (.int r :: st) rt2 m2) : J X G ρ n nL pc lv stk rt m := J_callS (ov := some (.int r)) hX hd hw hd1 hct hna hs hcat k
theorem J_callSv (hX : Ok X G ρ cc nL own d) (hd : decode cc pc = .ok (.invokestatic idx, 3)) (hw : CwS own idx y cc1 nL1 ret na) (hd1 : d1 + 1 ≤ d) (hct : CT G X.1.2.1 y cc1 nL1 ret d1 0 0 ρ n rt As m none rt2 m2) (hna : As.length = na) (hs : stk = As.reverse ++ st) (hcat : (st.map fun v => v.category).sum ≤ 8)
    (k : J X G ρ n nL (pc + 3) lv st rt2 m2) : J X G ρ n nL pc lv stk rt m := J_callS (ov := none) hX hd hw hd1 hct hna hs hcat k
theorem J_split {α : Type} {c : Prop} [Decidable c] {A B : Option α} {res : α} {P : Prop} (h : (if c then A else B) = some res) (kt : c → A = some res → P) (ke : ¬ c → B = some res → P) : P := by
  by_cases hc : c
  · exact kt hc (by rw [if_pos hc] at h; exact h)
  · exact ke hc (by rw [if_neg hc] at h; exact h)
theorem J_ldc_w (hX : Ok X G ρ cc nL own d) (v : Int32) (hd : decode cc pc = .ok (.ldc_w idx, 3)) (hw : Cond.constant own idx v ∈ gt) (k : J X G ρ n nL (pc + 3) lv (.int v :: st) rt m) : J X G ρ n nL pc lv st rt m := by
  intro H locs ls hP hS hl
  exact lv_ldcw hX.1 hX.2.1 hX.2.2.2.1 (hX.2.2.2.2.1 _ hw) hd (k H locs ls hP hS hl)
theorem J_tabIn (hX : Ok X G ρ cc nL own d) {x : Int32} {dflt lo hi off : Int} {offs : Array Int} {len : Nat} (tgt : Nat) (v : Int32) (hd : decode cc pc = .ok (.tableswitch dflt lo hi offs, len)) (hx : x = v) (h1 : ¬ v.toInt < lo) (h2 : ¬ hi < v.toInt) (ho : offs[(v.toInt - lo).toNat]? = some ((tgt : Int) - (pc : Int))) (ht : True) (k : J X G ρ n nL tgt lv st rt m) : J X G ρ n nL pc lv (.int x :: st) rt m := by
  intro H locs ls hP hS hl
  subst hx
  exact lv_tableIn (off := (tgt : Int) - (pc : Int)) hX.1 hX.2.1 hd h1 h2 ho (by omega) (k H locs ls hP hS hl)
theorem tab_out {x : Int32} {lo hi : Int} (vs : List Int32) (hv : (List.range (hi - lo + 1).toNat).all (fun j => decide (Int32.ofInt (lo + (j : Int)) ∈ vs)) = true) (hx : x ∉ vs) : x.toInt < lo ∨ hi < x.toInt := by
  by_cases h1 : x.toInt < lo
  · exact Or.inl h1
  · by_cases h2 : hi < x.toInt
    · exact Or.inr h2
    · exfalso
      have h3 := List.all_eq_true.mp hv (x.toInt - lo).toNat (List.mem_range.mpr (by omega))
      have h4 := of_decide_eq_true h3
      have e : lo + (((x.toInt - lo).toNat : Nat) : Int) = x.toInt := by omega
      rw [e, Int32.ofInt_toInt] at h4
      exact hx h4
theorem J_tabOut (hX : Ok X G ρ cc nL own d) {x : Int32} {dflt lo hi : Int} {offs : Array Int} {len : Nat} (tgt : Nat) (vs : List Int32) (hd : decode cc pc = .ok (.tableswitch dflt lo hi offs, len)) (hv : (List.range (hi - lo + 1).toNat).all (fun j => decide (Int32.ofInt (lo + (j : Int)) ∈ vs)) = true) (hx : x ∉ vs) (ht : (pc : Int) + dflt = (tgt : Int)) (k : J X G ρ n nL tgt lv st rt m) : J X G ρ n nL pc lv (.int x :: st) rt m := by
  intro H locs ls hP hS hl
  exact lv_tableOut hX.1 hX.2.1 hd (tab_out vs hv hx) ht (k H locs ls hP hS hl)
theorem J_look (hX : Ok X G ρ cc nL own d) {x : Int32} {dflt : Int} {ps : Array (Int × Int)} {len : Nat} (tgt : Nat) (hd : decode cc pc = .ok (.lookupswitch dflt ps, len)) (hp : (ps.toList.zip (ps.toList.drop 1)).all (fun (a, next) => a.1 < next.1) = true) (ho : Op.lookupswitch.offset ps.toList dflt x.toInt = (tgt : Int) - (pc : Int)) (ht : True) (k : J X G ρ n nL tgt lv st rt m) : J X G ρ n nL pc lv (.int x :: st) rt m := by
  intro H locs ls hP hS hl
  exact lv_lookup (off := (tgt : Int) - (pc : Int)) hX.1 hX.2.1 hd hp ho (by omega) (k H locs ls hP hS hl)
end Call2
theorem ic_m1 : Int32.ofInt (-1) = -1 := by decide
theorem ic_0 : Int32.ofInt (0) = 0 := by decide
theorem ic_1 : Int32.ofInt (1) = 1 := by decide
theorem ic_2 : Int32.ofInt (2) = 2 := by decide
theorem ic_5 : Int32.ofInt (5) = 5 := by decide
theorem lay_26 : lay 26 = (3, 16) := by decide +kernel
theorem lo_26 : (lay 26).1 = 3 := by decide +kernel
theorem lt_26 : 26 < 126 := by decide
theorem lay_27 : lay 27 = (12, 40) := by decide +kernel
theorem lo_27 : (lay 27).1 = 12 := by decide +kernel
theorem lt_27 : 27 < 126 := by decide
theorem rt_26_3 (t u w v : Nat) (x : Option Nat) : RT t u w v x 26 3 = some 27 := rfl
theorem lt_isSt_0 {a : Nat} (h : isSt a) : a < 126 := by rcases h with rfl | rfl | rfl | rfl <;> decide
theorem lay_isSt_0 {a : Nat} (h : isSt a) : lay (a) = (5, 8) := by rcases h with rfl | rfl | rfl | rfl <;> decide +kernel
theorem lo_isSt_0 {a : Nat} (h : isSt a) : (lay (a)).1 = 5 := by rcases h with rfl | rfl | rfl | rfl <;> decide +kernel
theorem rt_isSt_0_0 (t u w v : Nat) (x : Option Nat) {a : Nat} (h : isSt a) : RT t u w v x (a) 0 = some 26 := by rcases h with rfl | rfl | rfl | rfl <;> rfl
theorem rt_isSt_0_2 (t u w v : Nat) (x : Option Nat) {a : Nat} (h : isSt a) : RT t u w v x (a) 2 = some (a + 1) := by rcases h with rfl | rfl | rfl | rfl <;> rfl
theorem rt_isSt_0_3 (t u w v : Nat) (x : Option Nat) {a : Nat} (h : isSt a) : RT t u w v x (a) 3 = some (a + 2) := by rcases h with rfl | rfl | rfl | rfl <;> rfl
theorem rt_isSt_0_4 (t u w v : Nat) (x : Option Nat) {a : Nat} (h : isSt a) : RT t u w v x (a) 4 = some (a + 3) := by rcases h with rfl | rfl | rfl | rfl <;> rfl
theorem lt_isSt_1 {a : Nat} (h : isSt a) : a + 1 < 126 := by rcases h with rfl | rfl | rfl | rfl <;> decide
theorem lay_isSt_1 {a : Nat} (h : isSt a) : lay (a + 1) = (12, 200) := by rcases h with rfl | rfl | rfl | rfl <;> decide +kernel
theorem lo_isSt_1 {a : Nat} (h : isSt a) : (lay (a + 1)).1 = 12 := by rcases h with rfl | rfl | rfl | rfl <;> decide +kernel
theorem lt_isSt_2 {a : Nat} (h : isSt a) : a + 2 < 126 := by rcases h with rfl | rfl | rfl | rfl <;> decide
theorem lay_isSt_2 {a : Nat} (h : isSt a) : lay (a + 2) = (12, 200) := by rcases h with rfl | rfl | rfl | rfl <;> decide +kernel
theorem lo_isSt_2 {a : Nat} (h : isSt a) : (lay (a + 2)).1 = 12 := by rcases h with rfl | rfl | rfl | rfl <;> decide +kernel
theorem lt_isSt_3 {a : Nat} (h : isSt a) : a + 3 < 126 := by rcases h with rfl | rfl | rfl | rfl <;> decide
theorem lay_isSt_3 {a : Nat} (h : isSt a) : lay (a + 3) = (12, 13) := by rcases h with rfl | rfl | rfl | rfl <;> decide +kernel
theorem lo_isSt_3 {a : Nat} (h : isSt a) : (lay (a + 3)).1 = 12 := by rcases h with rfl | rfl | rfl | rfl <;> decide +kernel
theorem gt_RX4 : ∀ w ∈ wsX40, w ∈ gt := gt_all inX4 (by decide +kernel)
theorem gt_RX6 : ∀ w ∈ wsX60, w ∈ gt := gt_all inX6 (by decide +kernel)
theorem fl_RX6_9 : FL RX6 9 5 2 := ⟨_, _, _, rfl, gt_RX6, by decide, by decide, by decide, gt_of (by decide +kernel) rfl⟩
theorem fl_RX6_15 : FL RX6 15 5 3 := ⟨_, _, _, rfl, gt_RX6, by decide, by decide, by decide, gt_of (by decide +kernel) rfl⟩
theorem fl_RX6_18 : FL RX6 18 5 4 := ⟨_, _, _, rfl, gt_RX6, by decide, by decide, by decide, gt_of (by decide +kernel) rfl⟩
theorem fl_RX6_24 : FL RX6 24 5 0 := ⟨_, _, _, rfl, gt_RX6, by decide, by decide, by decide, gt_of (by decide +kernel) rfl⟩
theorem fl_RX6_28 : FL RX6 28 3 0 := ⟨_, _, _, rfl, gt_RX4, by decide, by decide, by decide, gt_of (by decide +kernel) rfl⟩
theorem fl_RX6_34 : FL RX6 34 5 1 := ⟨_, _, _, rfl, gt_RX6, by decide, by decide, by decide, gt_of (by decide +kernel) rfl⟩
theorem fl_RX6_61 : FL RX6 61 3 3 := ⟨_, _, _, rfl, gt_RX4, by decide, by decide, by decide, gt_of (by decide +kernel) rfl⟩
theorem fl_RX6_76 : FL RX6 76 3 1 := ⟨_, _, _, rfl, gt_RX4, by decide, by decide, by decide, gt_of (by decide +kernel) rfl⟩
theorem pl_RX6_34 : PL RX6 34 5 1 .int := ⟨_, _, _, rfl, gt_RX6, by decide, by decide, by decide, gt_of (by decide +kernel) rfl, ⟨tyX6, tyX6_ok⟩, nmX6, rfl, by decide +kernel⟩
theorem pl_RX6_37 : PL RX6 37 5 5 .int := ⟨_, _, _, rfl, gt_RX6, by decide, by decide, by decide, gt_of (by decide +kernel) rfl, ⟨tyX6, tyX6_ok⟩, nmX6, rfl, by decide +kernel⟩
theorem pl_RX6_40 : PL RX6 40 5 7 .int := ⟨_, _, _, rfl, gt_RX6, by decide, by decide, by decide, gt_of (by decide +kernel) rfl, ⟨tyX6, tyX6_ok⟩, nmX6, rfl, by decide +kernel⟩
theorem cw_RX6_64 : CwV RX6 64 RX6 yX6_lostBits cX6_lostBits 4 (some .int) 1 := ⟨⟨gt_all (by decide +kernel) (by decide +kernel), gt_of (by decide +kernel) rfl⟩, by decide +kernel, by decide⟩
theorem cw_RX6_85 : CwV RX6 85 RX6 yX6_isDead cX6_isDead 3 (some .boolean) 1 := ⟨⟨gt_all (by decide +kernel) (by decide +kernel), gt_of (by decide +kernel) rfl⟩, by decide +kernel, by decide⟩
