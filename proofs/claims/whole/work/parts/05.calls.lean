theorem Zo_moved {C n d : String} {v w : Value} {A : Nat → Prop} {u U : State} {H H1 : Heap} (hvm : u.vm.Alike U.vm) (hq : ∀ a : Nat, a < H.size → ¬ A a → H1[a]? = H[a]?) (h : va_Z C n d v A u H ∨ va_Z C n d w A u H) : va_Z C n d v A U H1 ∨ va_Z C n d w A U H1 :=
  h.imp (fun h => (h.moved hvm).kept hq) (fun h => (h.moved hvm).kept hq)
theorem Sk_moved {G : GG} {ρ : Nat → Nat} {s U : State} (hvm : s.vm.Alike U.vm) (hR : ∀ (o tx : String) (k a : Nat), vk_R o k tx a s → vk_R o k tx a U) (hN : ∀ (a : String) (i : Nat) (x : MethodName) (h : String), va_Nw (.methodLinkNest a i x h) s → va_Nw (.methodLinkNest a i x h) U) (hq : ∀ a : Nat, a < s.heap.size → ¬ GA G a → U.heap[a]? = s.heap[a]?) (h : Sk G ρ s) : Sk G ρ U :=
  ⟨(h.1.moved hvm).kept hq, (h.2.1.moved hvm).kept hq, Zo_moved hvm hq h.2.2.1, fun k q hk => hR _ _ _ _ (h.2.2.2.1 k q hk), h.2.2.2.2.1.moved hvm, fun q hq => hN _ _ _ _ (h.2.2.2.2.2 q hq)⟩
theorem Wk_moved {G : GG} {ρ : Nat → Nat} {s U : State} (hW : s.WarmedH U.vm) (hz : s.heap.size ≤ U.heap.size) (hq : ∀ a : Nat, a < s.heap.size → ¬ GA G a → U.heap[a]? = s.heap[a]?) (h : Wk G ρ s) : Wk G ρ U :=
  ⟨va_K.moved hW.alike h.1, Sk_moved hW.alike (fun _ _ _ _ q => q.warm hW) (fun _ _ _ _ q => q.warmM hW) hq h.2.1, Nat.le_trans h.2.2 hz⟩
theorem Pcc_blind {G : GG} {ρ : Nat → Nat} {n : Nat} {rt : Rt} {args : List Value} {m : Mm} : FrameBlind (Pcc G ρ n rt args m) := by
  intro a U g mk ⟨h1, h2, h3⟩
  exact ⟨h1, h2, va_K.moved (u := U) (U := U.calling g mk a) (Vm.Alike.refl U.vm) h3.1, Sk_moved (s := U) (U := U.calling g mk a) (Vm.Alike.refl U.vm) (fun _ _ _ _ q => q.same rfl) (fun _ _ _ _ q => va_Nw.same rfl rfl q) (fun _ _ _ => rfl) h3.2.1, h3.2.2⟩
theorem gt_goodIn {y : MethodName} {cc : ByteArray} {nL : Nat} {ret : Option FieldType} (h : Cond.code y cc nL ret ∈ gt) : GoodIn gt (.code y cc nL ret :: gt) := by
  intro w hw
  have hm : w ∈ gt := by
    rcases List.mem_cons.mp hw with rfl | h2
    · exact h
    · exact h2
  exact ⟨hm, gt_good hm⟩
theorem gt_goodIn2 {y : MethodName} {cc : ByteArray} {nL : Nat} {ret : Option FieldType} {l : List Cond} (h : Cond.code y cc nL ret ∈ gt) (hl : ∀ w ∈ l, w ∈ gt) : GoodIn gt (l ++ (.code y cc nL ret :: gt)) := by
  intro w hw
  rcases List.mem_append.mp hw with h2 | h2
  · exact ⟨hl w h2, gt_good (hl w h2)⟩
  · exact gt_goodIn h w h2
/-- what a call of an instance method rests on: places in the tables -/
def CwV (own : String) (idx : Nat) (C : String) (y : MethodName) (cc : ByteArray) (nL : Nat) (ret : Option FieldType) (na : Nat) : Prop :=
  ((∀ w ∈ ([.methodLink own idx y, .instanceMethod y, .selects C y y, .initialized C] : List Cond), w ∈ gt) ∧ Cond.code y cc nL ret ∈ gt) ∧ (y.cls = C ∧ y.cls ≠ "java/lang/invoke/MethodHandle" ∧ y.cls ≠ "java/lang/invoke/VarHandle" ∧ (parseMethodDescriptor y.desc).map (fun d => d.parameters.length) = some na) ∧ nL + 19 ≤ 64
def CwS (own : String) (idx : Nat) (y : MethodName) (cc : ByteArray) (nL : Nat) (ret : Option FieldType) (na : Nat) : Prop :=
  ((∀ w ∈ ([.methodLink own idx y, .static y, .initialized y.cls] : List Cond), w ∈ gt) ∧ Cond.code y cc nL ret ∈ gt) ∧ (y.cls ≠ "java/lang/invoke/MethodHandle" ∧ y.cls ≠ "java/lang/invoke/VarHandle" ∧ (parseMethodDescriptor y.desc).map (fun d => d.parameters.length) = some na) ∧ nL + 19 ≤ 64
theorem J_run {X : XX} {G : GG} {ρ : Nat → Nat} {n nL pc : Nat} {lv : List (Nat × Value)} {stk st : List Value} {rt rt2 : Rt} {m m2 : Mm} {ov : Option Value} {av : Array Value}
    (hr : ∀ (H : Heap) (locs : List Loc) (ls : Array Slot), Wp G ρ n rt m H → va_S (GA G) X.1.2.2.2.2.heap H locs → lv_has ls nL (lv.map (mq ρ)) → va_Run X.1.1 X.1.2.1 X.1.2.2.1 X.1.2.2.2.1 X.1.2.2.2.2 X.2.1.1 X.2.1.2.1 X.2.1.2.2.1 X.2.1.2.2.2.1 X.2.1.2.2.2.2 H locs X.2.2.1 X.2.2.2.1 0 0 (F0 X.2.1.1 pc ls (stk.map (mv ρ))) (st.map (mv ρ)) (Qcc G ρ n ov rt2 m2 av) (GA G))
    (k : J X G ρ n nL (pc + 3) lv (ov.toList ++ st) rt2 m2) : J X G ρ n nL pc lv stk rt m := by
  intro H locs ls hP hS hl T hT XS
  obtain ⟨v, st₀, t, T', L, h0, X', hL, e1, e2, ⟨⟨hv, hp⟩, hz, hk⟩, st1⟩ := hr H locs ls hP hS hl T hT XS
  have hv2 : v = ov.map (mv ρ) := by cases hv; rfl
  subst hv2
  rw [h0] at hz hk
  have hS2 : va_S (GA G) X.1.2.2.2.2.heap T'.heap (locs ++ L) := ⟨Nat.le_trans hS.1 (by rw [e1]; exact hz), fun q h1 h2 => by rw [e1, hk q (Nat.lt_of_lt_of_le h1 hS.1) h2]; exact hS.2.1 q h1 h2, fun q hq => by
      rcases List.mem_append.mp hq with h | h
      · exact hS.2.2 q h
      · exact hL q h⟩
  obtain ⟨t2, a1, b1⟩ := k T'.heap (locs ++ L) ls (by rw [e1]; exact hp) hS2 hl T' rfl X'
  refine ⟨t2, st1 t2 ?_, b1⟩
  have e : (ov.toList ++ st).map (mv ρ) = (ov.map (mv ρ)).toList ++ st.map (mv ρ) := by cases ov <;> rfl
  rw [← e]
  exact a1
theorem mv_sum (ρ : Nat → Nat) (st : List Value) : ((st.map (mv ρ)).map fun v => v.category).sum = (st.map fun v => v.category).sum := by
  rw [List.map_map]
  congr 1
  apply List.map_congr_left
  intro v _
  exact mv_cat ρ v
section Call
variable {X : XX} {G : GG} {ρ : Nat → Nat} {n : Nat} {cc : ByteArray} {nL : Nat} {own : String} {d pc : Nat} {lv : List (Nat × Value)} {stk st As : List Value} {rt rt2 : Rt} {m m2 : Mm} {ov : Option Value} {idx ci b na d1 nL1 : Nat} {y : MethodName} {cc1 : ByteArray} {ret : Option FieldType} {C : String}
theorem J_callV (hX : Ok X G ρ cc nL own d) (hd : decode cc pc = .ok (.invokevirtual idx, 3)) (hw : CwV own idx C y cc1 nL1 ret na) (hd1 : d1 + 1 ≤ d)
    (hct : CT G X.1.2.1 y cc1 nL1 ret d1 0 0 ρ n rt (.ref b :: As) m ov rt2 m2)
    (hb : b < n) (hlb : (lay b).1 = ci) (hci : ci < 11) (hC : (vwCl[ci]?).map (·.1) = some C) (hna : As.length = na) (hs : stk = As.reverse ++ .ref b :: st) (hcat : (st.map fun v => v.category).sum ≤ 8)
    (k : J X G ρ n nL (pc + 3) lv (ov.toList ++ st) rt2 m2) : J X G ρ n nL pc lv stk rt m := by
  refine J_run (av := (Value.ref (ρ b) :: As.map (mv ρ)).toArray) (fun H locs ls hP hS hl => ?_) k
  obtain ⟨hx, hbb, hml, hown, hts, hk, hc, hs2, hfr, hlo⟩ := hX
  have hcb : ∃ q : vw_C, vwCl[ci]? = some q ∧ q.1 = C := by
    cases hq : vwCl[ci]? with
    | none => rw [hq] at hC; cases hC
    | some q => rw [hq] at hC; exact ⟨q, rfl, Option.some.inj hC⟩
  obtain ⟨q, hq1, hq2⟩ := hcb
  have hrec := va_recv (s := X.1.2.2.2.2) hk.1 hP.1 hq1 (q0 := b) (a := ρ b) (fs := flds (ftab ci) ρ rt m b) (by rw [wl_get _ _ _ _ hb, cE_obj hlb hci])
  rw [hq2] at hrec
  have hn2 : (As.map (mv ρ)).length = na := by rw [List.length_map]; exact hna
  have hstk : (stk.map (mv ρ)) = (As.map (mv ρ)).reverse ++ .ref (ρ b) :: st.map (mv ρ) := by
    rw [hs, List.map_append, List.map_reverse]; rfl
  refine va_runV (As := As.map (mv ρ)) (rest := st.map (mv ρ)) (b := ρ b) (C := C) (nL := nL) (Ts := gt) (own := own) ⟨hx, hbb, hml, hown, hts⟩ hct
    (cwV na hts (gt_goodIn2 hw.1.2 hw.1.1) rfl rfl rfl hw.2.1 ⟨by show d1 + 1 ≤ _; omega, by show 8 + (nL1 + 11) + 64 * d1 ≤ _; have := hw.2.2; omega⟩)
    ⟨Pcc_blind, hrec, fun U hU hW => ⟨rfl, by rw [hU]; exact hP, Wk_moved hW (by rw [hU]; exact hS.1) (fun a h1 h2 => by rw [hU]; exact hS.2.1 a h1 h2) hk⟩⟩ rfl hn2 hl.1 hstk (by show 2 * (F0 X.2.1.1 pc ls (stk.map (mv ρ))).monitorRoom + _ ≤ 8; exact lv_room (by rw [mv_sum]; exact hcat)) hd ⟨hc, hs2⟩
theorem J_callS (hX : Ok X G ρ cc nL own d) (hd : decode cc pc = .ok (.invokestatic idx, 3)) (hw : CwS own idx y cc1 nL1 ret na) (hd1 : d1 + 1 ≤ d)
    (hct : CT G X.1.2.1 y cc1 nL1 ret d1 0 0 ρ n rt As m ov rt2 m2) (hna : As.length = na) (hs : stk = As.reverse ++ st) (hcat : (st.map fun v => v.category).sum ≤ 8)
    (k : J X G ρ n nL (pc + 3) lv (ov.toList ++ st) rt2 m2) : J X G ρ n nL pc lv stk rt m := by
  refine J_run (av := (As.map (mv ρ)).toArray) (fun H locs ls hP hS hl => ?_) k
  obtain ⟨hx, hbb, hml, hown, hts, hk, hc, hs2, hfr, hlo⟩ := hX
  have hn2 : (As.map (mv ρ)).length = na := by rw [List.length_map]; exact hna
  have hstk : (stk.map (mv ρ)) = (As.map (mv ρ)).reverse ++ st.map (mv ρ) := by
    rw [hs, List.map_append, List.map_reverse]
  refine va_runS (As := As.map (mv ρ)) (rest := st.map (mv ρ)) (nL := nL) (Ts := gt) (own := own) ⟨hx, hbb, hml, hown, hts⟩ hct
    (va_cwS na hts (gt_goodIn2 hw.1.2 hw.1.1) rfl rfl rfl hw.2.1 ⟨by show d1 + 1 ≤ _; omega, by show 8 + (nL1 + 11) + 64 * d1 ≤ _; have := hw.2.2; omega⟩)
    ⟨Pcc_blind, fun U hU hW => ⟨rfl, by rw [hU]; exact hP, Wk_moved hW (by rw [hU]; exact hS.1) (fun a h1 h2 => by rw [hU]; exact hS.2.1 a h1 h2) hk⟩⟩ rfl hn2 hl.1 hstk (by show 2 * (F0 X.2.1.1 pc ls (stk.map (mv ρ))).monitorRoom + _ ≤ 8; exact lv_room (by rw [mv_sum]; exact hcat)) hd ⟨hc, hs2⟩
end Call
