def FU : Nat := 4096
theorem gt_4 {a b c d : Cond} (h1 : a ∈ gt) (h2 : b ∈ gt) (h3 : c ∈ gt) (h4 : d ∈ gt) : ∀ w ∈ [a, b, c, d], w ∈ gt := List.forall_mem_cons.mpr ⟨h1, List.forall_mem_cons.mpr ⟨h2, List.forall_mem_cons.mpr ⟨h3, List.forall_mem_cons.mpr ⟨h4, fun _ h => absurd h List.not_mem_nil⟩⟩⟩⟩
theorem gt_3 {a b c : Cond} (h1 : a ∈ gt) (h2 : b ∈ gt) (h3 : c ∈ gt) : ∀ w ∈ [a, b, c], w ∈ gt := List.forall_mem_cons.mpr ⟨h1, List.forall_mem_cons.mpr ⟨h2, List.forall_mem_cons.mpr ⟨h3, fun _ h => absurd h List.not_mem_nil⟩⟩⟩
theorem ltn {a n : Nat} (h : a < 126) (hn : 126 ≤ n) : a < n := Nat.lt_of_lt_of_le h hn
def isSt (a : Nat) : Prop := a = 54 ∨ a = 59 ∨ a = 65 ∨ a = 70
def isLa (a : Nat) : Prop := a = 26 ∨ a = 40
def isTo (a : Nat) : Prop := a = 3 ∨ a = 10
def isWk (a : Nat) : Prop := a = 18 ∨ a = 22
def isLw (a : Nat) : Prop := a = 7 ∨ a = 14
def isIa (a : Nat) : Prop := (lay a).1 = 12 ∧ a < 126
def isTx (a : Nat) : Prop := 1000 ≤ a ∧ a < 1023
theorem layIa {a : Nat} (h : isIa a) : lay a = (12, (lay a).2) := by rw [← h.1]
theorem isLw_isTo {a : Nat} (h : isTo a) : isLw (a + 4) := by rcases h with rfl | rfl <;> simp [isLw]
theorem isB_nar {v : Int32} (h : isB v = true) : narrow .boolean (.int v) = .int v := by
  simp only [isB, Bool.or_eq_true, decide_eq_true_eq] at h
  rcases h with rfl | rfl <;> rfl
theorem vz0 : vp_nar .boolean 0 = 0 := rfl
theorem vz1 : vp_nar .boolean 1 = 1 := rfl
theorem vzB {v : Int32} (h : isB v = true) : vp_nar .boolean v = v := by
  simp only [isB, Bool.or_eq_true, decide_eq_true_eq] at h
  rcases h with rfl | rfl <;> rfl
section Call2
variable {X : XX} {G : GG} {ρ : Nat → Nat} {n : Nat} {cc : ByteArray} {nL : Nat} {own : String} {d pc : Nat} {lv : List (Nat × Value)} {stk st As : List Value} {rt rt2 : Rt} {m m2 : Mm} {idx ci b na d1 nL1 : Nat} {y : MethodName} {cc1 : ByteArray} {ret : Option FieldType} {C : String}
theorem J_callVi {r : Int32} (hX : Ok X G ρ cc nL own d) (hd : decode cc pc = .ok (.invokevirtual idx, 3)) (hw : CwV own idx C y cc1 nL1 ret na) (hd1 : d1 + 1 ≤ d) (hct : CT G X.1.2.1 y cc1 nL1 ret d1 0 0 ρ n rt (.ref b :: As) m (some (.int r)) rt2 m2) (hb : b < n) (hlb : (lay b).1 = ci) (hci : ci < 11) (hC : (vwCl[ci]?).map (·.1) = some C) (hna : As.length = na) (hs : stk = As.reverse ++ .ref b :: st) (hcat : (st.map fun v => v.category).sum ≤ 8)
    (k : J X G ρ n nL (pc + 3) lv (.int r :: st) rt2 m2) : J X G ρ n nL pc lv stk rt m := J_callV (ov := some (.int r)) hX hd hw hd1 hct hb hlb hci hC hna hs hcat k
theorem J_callVl {r : Int64} (hX : Ok X G ρ cc nL own d) (hd : decode cc pc = .ok (.invokevirtual idx, 3)) (hw : CwV own idx C y cc1 nL1 ret na) (hd1 : d1 + 1 ≤ d) (hct : CT G X.1.2.1 y cc1 nL1 ret d1 0 0 ρ n rt (.ref b :: As) m (some (.long r)) rt2 m2) (hb : b < n) (hlb : (lay b).1 = ci) (hci : ci < 11) (hC : (vwCl[ci]?).map (·.1) = some C) (hna : As.length = na) (hs : stk = As.reverse ++ .ref b :: st) (hcat : (st.map fun v => v.category).sum ≤ 8)
    (k : J X G ρ n nL (pc + 3) lv (.long r :: st) rt2 m2) : J X G ρ n nL pc lv stk rt m := J_callV (ov := some (.long r)) hX hd hw hd1 hct hb hlb hci hC hna hs hcat k
theorem J_callVv (hX : Ok X G ρ cc nL own d) (hd : decode cc pc = .ok (.invokevirtual idx, 3)) (hw : CwV own idx C y cc1 nL1 ret na) (hd1 : d1 + 1 ≤ d) (hct : CT G X.1.2.1 y cc1 nL1 ret d1 0 0 ρ n rt (.ref b :: As) m none rt2 m2) (hb : b < n) (hlb : (lay b).1 = ci) (hci : ci < 11) (hC : (vwCl[ci]?).map (·.1) = some C) (hna : As.length = na) (hs : stk = As.reverse ++ .ref b :: st) (hcat : (st.map fun v => v.category).sum ≤ 8)
    (k : J X G ρ n nL (pc + 3) lv st rt2 m2) : J X G ρ n nL pc lv stk rt m := J_callV (ov := none) hX hd hw hd1 hct hb hlb hci hC hna hs hcat k
theorem J_callSi {r : Int32} (hX : Ok X G ρ cc nL own d) (hd : decode cc pc = .ok (.invokestatic idx, 3)) (hw : CwS own idx y cc1 nL1 ret na) (hd1 : d1 + 1 ≤ d) (hct : CT G X.1.2.1 y cc1 nL1 ret d1 0 0 ρ n rt As m (some (.int r)) rt2 m2) (hna : As.length = na) (hs : stk = As.reverse ++ st) (hcat : (st.map fun v => v.category).sum ≤ 8)
    (k : J X G ρ n nL (pc + 3) lv (.int r :: st) rt2 m2) : J X G ρ n nL pc lv stk rt m := J_callS (ov := some (.int r)) hX hd hw hd1 hct hna hs hcat k
theorem J_callSv (hX : Ok X G ρ cc nL own d) (hd : decode cc pc = .ok (.invokestatic idx, 3)) (hw : CwS own idx y cc1 nL1 ret na) (hd1 : d1 + 1 ≤ d) (hct : CT G X.1.2.1 y cc1 nL1 ret d1 0 0 ρ n rt As m none rt2 m2) (hna : As.length = na) (hs : stk = As.reverse ++ st) (hcat : (st.map fun v => v.category).sum ≤ 8)
    (k : J X G ρ n nL (pc + 3) lv st rt2 m2) : J X G ρ n nL pc lv stk rt m := J_callS (ov := none) hX hd hw hd1 hct hna hs hcat k
theorem J_split {α : Type} {c : Prop} [Decidable c] {A B : Option α} {res : α} {P : Prop} (h : (if c then A else B) = some res) (kt : c → A = some res → P) (ke : ¬ c → B = some res → P) : P := by
  by_cases hc : c
  · exact kt hc (by rw [if_pos hc] at h; exact h)
  · exact ke hc (by rw [if_neg hc] at h; exact h)
theorem J_ldc_w (hX : Ok X G ρ cc nL own d) (v : Int32) (hd : decode cc pc = .ok (.ldc_w idx, 3)) (hw : Cond.constant own idx v ∈ gt) (k : J X G ρ n nL (pc + 3) lv (.int v :: st) rt m) : J X G ρ n nL pc lv st rt m := by
  intro H locs ls hP hS hl
  exact lv_ldcw hX.1 hX.2.1 hX.2.2.2.1 (hX.2.2.2.2.1 _ hw) hd (k H locs ls hP hS hl)
theorem J_tabIn (hX : Ok X G ρ cc nL own d) {x : Int32} {dflt lo hi : Int} {offs : Array Int} {len : Nat} (tgt : Nat) (v : Int32) (hd : decode cc pc = .ok (.tableswitch dflt lo hi offs, len)) (hx : x = v) (h1 : ¬ v.toInt < lo) (h2 : ¬ hi < v.toInt) (ho : offs[(v.toInt - lo).toNat]? = some ((tgt : Int) - (pc : Int))) (ht : True) (k : J X G ρ n nL tgt lv st rt m) : J X G ρ n nL pc lv (.int x :: st) rt m := by
  intro H locs ls hP hS hl
  subst hx
  exact lv_tableIn (off := (tgt : Int) - (pc : Int)) hX.1 hX.2.1 hd h1 h2 ho (by omega) (k H locs ls hP hS hl)
theorem tab_out {x : Int32} {lo hi : Int} (vs : List Int32) (hv : (List.range (hi - lo + 1).toNat).all (fun j => decide (Int32.ofInt (lo + (j : Int)) ∈ vs)) = true) (hx : x ∉ vs) : x.toInt < lo ∨ hi < x.toInt := by
  by_cases h1 : x.toInt < lo
  · exact Or.inl h1
  · by_cases h2 : hi < x.toInt
    · exact Or.inr h2
    · exfalso
      have h3 := List.all_eq_true.mp hv (x.toInt - lo).toNat (List.mem_range.mpr (by omega))
      have h4 := of_decide_eq_true h3
      have e : lo + (((x.toInt - lo).toNat : Nat) : Int) = x.toInt := by omega
      rw [e, Int32.ofInt_toInt] at h4
      exact hx h4
theorem J_tabOut (hX : Ok X G ρ cc nL own d) {x : Int32} {dflt lo hi : Int} {offs : Array Int} {len : Nat} (tgt : Nat) (vs : List Int32) (hd : decode cc pc = .ok (.tableswitch dflt lo hi offs, len)) (hv : (List.range (hi - lo + 1).toNat).all (fun j => decide (Int32.ofInt (lo + (j : Int)) ∈ vs)) = true) (hx : x ∉ vs) (ht : (pc : Int) + dflt = (tgt : Int)) (k : J X G ρ n nL tgt lv st rt m) : J X G ρ n nL pc lv (.int x :: st) rt m := by
  intro H locs ls hP hS hl
  exact lv_tableOut hX.1 hX.2.1 hd (tab_out vs hv hx) ht (k H locs ls hP hS hl)
theorem J_look (hX : Ok X G ρ cc nL own d) {x : Int32} {dflt : Int} {ps : Array (Int × Int)} {len : Nat} (tgt : Nat) (hd : decode cc pc = .ok (.lookupswitch dflt ps, len)) (hp : (ps.toList.zip (ps.toList.drop 1)).all (fun (a, next) => a.1 < next.1) = true) (ho : Op.lookupswitch.offset ps.toList dflt x.toInt = (tgt : Int) - (pc : Int)) (ht : True) (k : J X G ρ n nL tgt lv st rt m) : J X G ρ n nL pc lv (.int x :: st) rt m := by
  intro H locs ls hP hS hl
  exact lv_lookup (off := (tgt : Int) - (pc : Int)) hX.1 hX.2.1 hd hp ho (by omega) (k H locs ls hP hS hl)
end Call2
def imax (x y : Int32) : Int32 := if x < y then y else x
def imin (x y : Int32) : Int32 := if y < x then y else x
def cpI (m : Mm) (s sp d dp n : Nat) : Mm := (fun b j => if b = d then va_cpy (m.1 s) (m.1 d) sp dp n j else m.1 b j, m.2)
def stC {α : Type} (m : Mm) (s : Nat) (sp : Int32) (d : Nat) (dp n : Int32) (K : Mm → Option α) : Option α := K (cpI m s (ix sp) d (ix dp) (ix n))
theorem cE_cpI_ne {G : GG} {ρ : Nat → Nat} {rt : Rt} {m : Mm} {s sp d dp n b : Nat} (h : b ≠ d) : cE G ρ rt (cpI m s sp d dp n) b = cE G ρ rt m b := by
  have e : (cpI m s sp d dp n).1 b = m.1 b := by funext j; simp [cpI, h]
  have e3 : ∀ t j, fv t ρ rt (cpI m s sp d dp n) b j = fv t ρ rt m b j := fun t j => by
    have e1 : (cpI m s sp d dp n).1 b j = m.1 b j := by rw [e]
    have e2 : (cpI m s sp d dp n).2 b j = m.2 b j := rfl
    simp only [fv, e1, e2]
  have e4 : (cpI m s sp d dp n).2 b = m.2 b := rfl
  simp only [cE, flds, e, e3, e4]
def CwM (own : String) (idx : Nat) (y : MethodName) (cc : ByteArray) : Prop := (∀ w ∈ ([.methodLink own idx y, .static y, .initialized "java/lang/Math", .code y cc 2 (some .int)] : List Cond), w ∈ gt)
def CwA (own : String) (idx : Nat) : Prop := (∀ w ∈ ([.methodLink own idx arraycopyName, .native arraycopyName, .static arraycopyName, .initialized "java/lang/System"] : List Cond), w ∈ gt)
section Nat2
variable {X : XX} {G : GG} {ρ : Nat → Nat} {n : Nat} {cc : ByteArray} {nL : Nat} {own : String} {d pc : Nat} {lv : List (Nat × Value)} {st : List Value} {rt : Rt} {m : Mm} {idx : Nat}
theorem J_imax (hX : Ok X G ρ cc nL own d) {x y : Int32} (hd : decode cc pc = .ok (.invokestatic idx, 3)) (hd1 : 1 ≤ d) (hw : CwM own idx Lib.Math.max.name Lib.Math.max.code) (hcat : (st.map fun v => v.category).sum ≤ 8) (k : J X G ρ n nL (pc + 3) lv (.int (imax x y) :: st) rt m) : J X G ρ n nL pc lv (.int y :: .int x :: st) rt m := by
  intro H locs ls hP hS hl
  obtain ⟨hx, hbb, hml, hown, hts, hk, hc, hs2, hfr, hlo⟩ := hX
  exact va_mmax hx hbb (by rw [hml]; exact hl.1.symm) hown (hts _ (hw _ (by simp))) (hts _ (hw _ (by simp))) (hts _ (hw _ (by simp))) (hts _ (hw _ (by simp))) (by omega) (by show ((st.map (mv ρ)).map fun v => v.category).sum + 13 ≤ _; rw [mv_sum]; omega) hc hs2 hd (k H locs ls hP hS hl)
theorem J_imin (hX : Ok X G ρ cc nL own d) {x y : Int32} (hd : decode cc pc = .ok (.invokestatic idx, 3)) (hd1 : 1 ≤ d) (hw : CwM own idx Lib.Math.min.name Lib.Math.min.code) (hcat : (st.map fun v => v.category).sum ≤ 8) (k : J X G ρ n nL (pc + 3) lv (.int (imin x y) :: st) rt m) : J X G ρ n nL pc lv (.int y :: .int x :: st) rt m := by
  intro H locs ls hP hS hl
  obtain ⟨hx, hbb, hml, hown, hts, hk, hc, hs2, hfr, hlo⟩ := hX
  exact va_mmin hx hbb (by rw [hml]; exact hl.1.symm) hown (hts _ (hw _ (by simp))) (hts _ (hw _ (by simp))) (hts _ (hw _ (by simp))) (hts _ (hw _ (by simp))) (by omega) (by show ((st.map (mv ρ)).map fun v => v.category).sum + 13 ≤ _; rw [mv_sum]; omega) hc hs2 hd (k H locs ls hP hS hl)
theorem J_acopy {α : Type} {K : Mm → Option α} {res : α} (hX : Ok X G ρ cc nL own d) {s e n0 n1 : Nat} {sp dp z : Int32} (hd : decode cc pc = .ok (.invokestatic idx, 3)) (hd1 : 1 ≤ d) (hw : CwA own idx) (hs : s < n) (hls : lay s = (12, n0)) (he : e < n) (hle : lay e = (12, n1)) (h1 : ¬ sp < 0) (h2 : ¬ dp < 0) (h3 : ¬ z < 0) (h4 : sp.toNatClampNeg + z.toNatClampNeg ≤ n0) (h5 : dp.toNatClampNeg + z.toNatClampNeg ≤ n1) (hcat : (st.map fun v => v.category).sum ≤ 8)
    (h : stC m s sp e dp z K = some res) (k : ∀ m2, K m2 = some res → J X G ρ n nL (pc + 3) lv st rt m2) : J X G ρ n nL pc lv (.int z :: .int dp :: .ref e :: .int sp :: .ref s :: st) rt m := by
  intro H locs ls hP hS hl
  obtain ⟨hx, hbb, hml, hown, hts, hk, hc, hs2, hfr, hlo⟩ := hX
  refine va_copyi hx hbb (by rw [hml]; exact hl.1.symm) hown (hts _ (hw _ (by simp))) (hts _ (hw _ (by simp))) (hts _ (hw _ (by simp))) (hts _ (hw _ (by simp))) hk.1 hP.1 hP.2 hS s e 1 1 (f := m.1 s) (g := m.1 e) (n0 := n0) (n1 := n1) (ty := .int) (by rw [wl_get _ _ _ _ hs, cE_int hls (by decide) (by decide)] <;> rfl) (by rw [wl_get _ _ _ _ he, cE_int hle (by decide) (by decide)] <;> rfl) rfl rfl rfl h1 h2 h3 h4 h5 (fun _ _ => rfl) (by omega) (by show ((st.map (mv ρ)).map fun v => v.category).sum + (nativeFrameWords "java/lang/System" "arraycopy" 5 + 11) ≤ _; rw [mv_sum, show nativeFrameWords "java/lang/System" "arraycopy" 5 = 7 from by decide +kernel]; omega) hd (fun H1 locs1 p1 d1 s1 => ?_)
  have hset : (wl G ρ rt m n).set e (ρ e, .inl (G.2.1 1, n1, .inl (va_cpy (m.1 s) (m.1 e) sp.toNatClampNeg dp.toNatClampNeg z.toNatClampNeg))) = wl G ρ rt (cpI m s (ix sp) e (ix dp) (ix z)) n := wl_set (by rw [cE_int hle (by decide) (by decide)]; simp [cpI, ix]) (fun b hb => cE_cpI_ne hb)
  rw [hset] at p1 d1
  exact k _ h H1 locs1 ls ⟨p1, d1⟩ s1 hl
end Nat2
/-! texts: constants of the class, at 1000 + k; their bytes at 2000 + k -/
def isTb (a : Nat) : Prop := 2000 ≤ a ∧ a < 2023
theorem isTb_isTx {a : Nat} (h : isTx a) : isTb (a + 1000) := ⟨by have := h.1; omega, by have := h.2; omega⟩
def txn (q : Nat) : Nat := sLen.getD (q - 2000) 0
def txl (q : Nat) : Int32 := Int32.ofNat (txn q)
def txb (q j : Nat) : Int32 := (sByt.getD (q - 2000) []).getD j 0
def isC (v : Int32) : Bool := decide ((v.toUInt32 % 65536).toInt32 = v)
theorem isC_nar {v : Int32} (h : isC v = true) : narrow .char (.int v) = .int v := by
  have e := of_decide_eq_true h
  rw [← e]
  exact pk_nc v
def inbL (i l : Int32) : Bool := decide (¬ i < 0) && decide (i < l)
def FT (own : String) (idx : Nat) (nm ds : String) : Prop := Cond.fieldLink own idx "java/lang/String" nm ds ∈ gt
section Text
variable {X : XX} {G : GG} {ρ : Nat → Nat} {n : Nat} {cc : ByteArray} {nL : Nat} {own : String} {d pc : Nat} {lv : List (Nat × Value)} {stk st As : List Value} {rt rt2 : Rt} {m m2 : Mm} {idx na d1 nL1 a : Nat} {y : MethodName} {cc1 : ByteArray} {ret : Option FieldType}
theorem J_i2b (hX : Ok X G ρ cc nL own d) {x : Int32} (hd : decode cc pc = .ok (.i2b, 1)) (k : J X G ρ n nL (pc + 1) lv (.int x.toInt8.toInt32 :: st) rt m) : J X G ρ n nL pc lv (.int x :: st) rt m := by
  intro H locs ls hP hS hl
  exact lv_i2b hX.1 hX.2.1 hd rfl (k H locs ls hP hS hl)
theorem tx_at (hX : Ok X G ρ cc nL own d) (ha : isTx a) : ∃ k : Nat, k < 23 ∧ a = 1000 + k ∧ a + 1000 = 2000 + k := ⟨a - 1000, by have := ha.2; omega, by have := ha.1; omega, by have := ha.1; omega⟩
theorem J_getTv (hX : Ok X G ρ cc nL own d) (ha : isTx a) (hd : decode cc pc = .ok (.getfield idx, 3)) (hf : FT own idx "value" "[B") (k : J X G ρ n nL (pc + 3) lv (.ref (a + 1000) :: st) rt m) : J X G ρ n nL pc lv (.ref a :: st) rt m := by
  intro H locs ls hP hS hl
  obtain ⟨i, hi, rfl, e2⟩ := tx_at hX ha
  have h1 := (hX.2.2.2.2.2.1.2.1.1.1 i hi).2.2.1
  dsimp only at h1
  rw [← e2] at h1
  exact vk_getf hX.1 hX.2.1 h1 hS hX.2.2.2.1 (hX.2.2.2.2.1 _ hf) (fun _ h => h) hd (k H locs ls hP hS hl)
theorem J_getTc (hX : Ok X G ρ cc nL own d) (ha : isTx a) (hd : decode cc pc = .ok (.getfield idx, 3)) (hf : FT own idx "coder" "B") (k : J X G ρ n nL (pc + 3) lv (.int 0 :: st) rt m) : J X G ρ n nL pc lv (.ref a :: st) rt m := by
  intro H locs ls hP hS hl
  obtain ⟨i, hi, rfl, e2⟩ := tx_at hX ha
  exact vk_getf hX.1 hX.2.1 (hX.2.2.2.2.2.1.2.1.1.1 i hi).2.1 hS hX.2.2.2.1 (hX.2.2.2.2.1 _ hf) (fun _ h => h) hd (k H locs ls hP hS hl)
theorem tb_at (ha : isTb a) : ∃ k : Nat, k < 23 ∧ a = 2000 + k := ⟨a - 2000, by have := ha.2; omega, by have := ha.1; omega⟩
theorem J_txlen (hX : Ok X G ρ cc nL own d) (ha : isTb a) (hd : decode cc pc = .ok (.arraylength, 1)) (k : J X G ρ n nL (pc + 1) lv (.int (txl a) :: st) rt m) : J X G ρ n nL pc lv (.ref a :: st) rt m := by
  intro H locs ls hP hS hl
  obtain ⟨i, hi, rfl⟩ := tb_at ha
  refine va_tlen hX.1 hX.2.1 (hX.2.2.2.2.2.1.2.1.1.1 i hi).2.2.2 hS ?_ hd (k H locs ls hP hS hl)
  simp [txl, txn]
theorem J_txb (hX : Ok X G ρ cc nL own d) {α : Type} {A : Option α} {res : α} {i : Int32} (ha : isTb a) (hd : decode cc pc = .ok (.baload, 1)) (h : gd (inb i (txn a)) A = some res) (k : A = some res → J X G ρ n nL (pc + 1) lv (.int (txb a (ix i)) :: st) rt m) : J X G ρ n nL pc lv (.int i :: .ref a :: st) rt m := by
  intro H locs ls hP hS hl
  obtain ⟨g1, h2⟩ := gd_some h
  obtain ⟨j, hj, rfl⟩ := tb_at ha
  refine va_tb (v := .int (txb (2000 + j) (ix i))) hX.1 hX.2.1 (hX.2.2.2.2.2.1.2.1.1.1 j hj).2.2.2 hS ?_ ?_ hd (k h2 H locs ls hP hS hl)
  · have h3 := inb_in g1
    rw [txn, Nat.add_sub_cancel_left] at h3
    exact h3
  · show Value.int _ = Value.int _
    rw [txb, Nat.add_sub_cancel_left, ix]
theorem J_getCS (hX : Ok X G ρ cc nL own d) (hd : decode cc pc = .ok (.getstatic idx, 3)) (hf : FT own idx "COMPACT_STRINGS" "Z") (k : J X G ρ n nL (pc + 3) lv (.int 1 :: st) rt m) : J X G ρ n nL pc lv st rt m := by
  intro H locs ls hP hS hl
  exact va_gets hX.1 hX.2.1 hX.2.2.2.2.2.1.2.1.2.1 hS hX.2.2.2.1 (hX.2.2.2.2.1 _ hf) (fun _ h => h) hd (k H locs ls hP hS hl)
theorem J_getSF (hX : Ok X G ρ cc nL own d) (hd : decode cc pc = .ok (.getstatic idx, 3)) (hf : Cond.fieldLink own idx "jdk/internal/util/Preconditions" "SIOOBE_FORMATTER" "Ljava/util/function/BiFunction;" ∈ gt) (k : ∀ v : Value, v = .null ∨ v = .ref 3000 → J X G ρ n nL (pc + 3) lv (v :: st) rt m) : J X G ρ n nL pc lv st rt m := by
  intro H locs ls hP hS hl
  rcases hX.2.2.2.2.2.1.2.1.2.2.1 with hz | hz
  · exact va_gets hX.1 hX.2.1 hz hS hX.2.2.2.1 (hX.2.2.2.2.1 _ hf) (fun _ h => h) hd (k .null (Or.inl rfl) H locs ls hP hS hl)
  · exact va_gets hX.1 hX.2.1 hz hS hX.2.2.2.1 (hX.2.2.2.2.1 _ hf) (fun _ h => h) hd (k (.ref 3000) (Or.inr rfl) H locs ls hP hS hl)
theorem J_ldcS (hX : Ok X G ρ cc nL own d) {k : Nat} {tx : String} (hd : decode cc pc = .ok (.ldc idx, 2)) (hq : sTab[k]? = some (own, idx, tx)) (kk : J X G ρ n nL (pc + 2) lv (.ref (1000 + k) :: st) rt m) : J X G ρ n nL pc lv st rt m := by
  intro H locs ls hP hS hl
  exact va_ldcS hX.1 hX.2.1 hX.2.2.2.1 (hX.2.2.2.2.2.1.2.1.2.2.2.1 k _ hq) hd (kk H locs ls hP hS hl)
theorem J_callT {ov : Option Value} (hX : Ok X G ρ cc nL own d) (hd : decode cc pc = .ok (.invokevirtual idx, 3)) (hw : CwV own idx "java/lang/String" y cc1 nL1 ret na) (hd1 : d1 + 1 ≤ d)
    (hct : CT G X.1.2.1 y cc1 nL1 ret d1 0 0 ρ n rt (.ref a :: As) m ov rt2 m2)
    (ha : isTx a) (hna : As.length = na) (hs : stk = As.reverse ++ .ref a :: st) (hcat : (st.map fun v => v.category).sum ≤ 8)
    (k : J X G ρ n nL (pc + 3) lv (ov.toList ++ st) rt2 m2) : J X G ρ n nL pc lv stk rt m := by
  refine J_run (av := (Value.ref (ρ a) :: As.map (mv ρ)).toArray) (fun H locs ls hP hS hl => ?_) k
  obtain ⟨i, hi, rfl, -⟩ := tx_at hX ha
  obtain ⟨hx, hbb, hml, hown, hts, hk, hc, hs2, hfr, hlo⟩ := hX
  have hrec := vk_recv hk.2.1.1 hi hS
  have hn2 : (As.map (mv ρ)).length = na := by rw [List.length_map]; exact hna
  have hstk : (stk.map (mv ρ)) = (As.map (mv ρ)).reverse ++ .ref (ρ (1000 + i)) :: st.map (mv ρ) := by
    rw [hs, List.map_append, List.map_reverse]; rfl
  refine va_runV (As := As.map (mv ρ)) (rest := st.map (mv ρ)) (b := ρ (1000 + i)) (C := "java/lang/String") (nL := nL) (Ts := gt) (own := own) ⟨hx, hbb, hml, hown, hts⟩ hct
    (cwV na hts (gt_goodIn2 hw.1.2 hw.1.1) rfl rfl rfl hw.2.1 ⟨by show d1 + 1 ≤ _; omega, by show 8 + (nL1 + 11) + 64 * d1 ≤ _; have := hw.2.2; omega⟩)
    ⟨Pcc_blind, hrec, fun U hU hW => ⟨rfl, by rw [hU]; exact hP, Wk_moved hW (by rw [hU]; exact hS.1) (fun a h1 h2 => by rw [hU]; exact hS.2.1 a h1 h2) hk⟩⟩ rfl hn2 hl.1 hstk (by show 2 * (F0 X.2.1.1 pc ls (stk.map (mv ρ))).monitorRoom + _ ≤ 8; exact lv_room (by rw [mv_sum]; exact hcat)) hd ⟨hc, hs2⟩
theorem J_callTi {r : Int32} (hX : Ok X G ρ cc nL own d) (hd : decode cc pc = .ok (.invokevirtual idx, 3)) (hw : CwV own idx "java/lang/String" y cc1 nL1 ret na) (hd1 : d1 + 1 ≤ d) (hct : CT G X.1.2.1 y cc1 nL1 ret d1 0 0 ρ n rt (.ref a :: As) m (some (.int r)) rt2 m2)
    (ha : isTx a) (hna : As.length = na) (hs : stk = As.reverse ++ .ref a :: st) (hcat : (st.map fun v => v.category).sum ≤ 8) (k : J X G ρ n nL (pc + 3) lv (.int r :: st) rt2 m2) : J X G ρ n nL pc lv stk rt m := J_callT (ov := some (.int r)) hX hd hw hd1 hct ha hna hs hcat k
end Text
