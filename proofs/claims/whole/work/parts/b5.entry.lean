/-! THE ENTRY: from the law's first instruction to its loop -/
section EntryA
variable {X : XX} {G : GG} {ρ : Nat → Nat} {n nL pc d idx : Nat} {cc : ByteArray} {own : String} {lv : List (Nat × Value)} {st : List Value} {rt : Rt} {m : Mm}
/-- behind a constructor's call, where a reference may be of the script -/
theorem J_runNL {stk : List Value} {rt2 : Rt} {m2 : Mm} {n2 mc ms : Nat} {av : Array Value} (hX : Ok X G ρ cc nL own d) (hr1 : X.2.2.1 + mc ≤ X.1.2.2.2.1.cells) (hr2 : X.2.2.2.1 + ms ≤ X.1.2.2.2.1.slots) (hlv : ∀ p ∈ lv, ∀ a, p.2 = .ref a → a < n ∨ 1000 ≤ a) (hst : ∀ v ∈ st, ∀ a, v = .ref a → a < n ∨ 1000 ≤ a)
    (hr : ∀ (H : Heap) (locs : List Loc) (ls : Array Slot), Wp G ρ n rt m H → va_S (GA G) X.1.2.2.2.2.heap H locs → lv_has ls nL (lv.map (mq ρ)) → va_Run X.1.1 X.1.2.1 X.1.2.2.1 X.1.2.2.2.1 X.1.2.2.2.2 X.2.1.1 X.2.1.2.1 X.2.1.2.2.1 X.2.1.2.2.2.1 X.2.1.2.2.2.2 H locs X.2.2.1 X.2.2.2.1 mc ms (F0 X.2.1.1 pc ls (stk.map (mv ρ))) (st.map (mv ρ)) (QcN G ρ n n2 rt2 m2 av) (GA G))
    (k : ∀ ρ2, Ag n ρ ρ2 → Ok (bump X mc ms) G ρ2 cc nL own d → J (bump X mc ms) G ρ2 n2 nL (pc + 3) lv st rt2 m2) : J X G ρ n nL pc lv stk rt m := by
  intro H locs ls hP hS hl T hT XS
  obtain ⟨v, st₀, t, T', L, h0, X', hL, e1, e2, ⟨⟨hv, ρ2, hag, hp⟩, hz, hk⟩, st1⟩ := hr H locs ls hP hS hl T hT XS
  have hv2 : v = none := by cases hv; rfl
  subst hv2
  rw [h0] at hz hk
  have hS2 : va_S (GA G) X.1.2.2.2.2.heap T'.heap (locs ++ L) := ⟨Nat.le_trans hS.1 (by rw [e1]; exact hz), fun q h1 h2 => by rw [e1, hk q (Nat.lt_of_lt_of_le h1 hS.1) h2]; exact hS.2.1 q h1 h2, fun q hq => by
      rcases List.mem_append.mp hq with h | h
      · exact hS.2.2 q h
      · exact hL q h⟩
  have mve : ∀ v : Value, (∀ a, v = .ref a → a < n ∨ 1000 ≤ a) → mv ρ2 v = mv ρ v := fun v hv => by
    cases v with
    | ref a => simp only [mv]; rw [hag a (hv a rfl)]
    | _ => rfl
  have es : st.map (mv ρ2) = st.map (mv ρ) := List.map_congr_left fun v hv => mve v (hst v hv)
  have el : lv.map (mq ρ2) = lv.map (mq ρ) := List.map_congr_left fun p hp => by simp only [mq, mve p.2 (hlv p hp)]
  obtain ⟨t2, a1, b1⟩ := k ρ2 hag (Ok_bump hX (fun b hb => hag b (Or.inr hb)) hr1 hr2) T'.heap (locs ++ L) ls (by rw [e1]; exact hp) hS2 (by rw [el]; exact hl) T' rfl X'
  refine ⟨t2, st1 t2 ?_, b1⟩
  rw [es] at a1
  exact a1
theorem J_callIL {stk As : List Value} {rt2 : Rt} {m2 : Mm} {n2 mc ms b na d1 nL1 : Nat} {y : MethodName} {cc1 : ByteArray} (hX : Ok X G ρ cc nL own d) (hd : decode cc pc = .ok (.invokespecial idx, 3)) (hw : CwI own idx y cc1 nL1 na) (hd1 : d1 + 1 ≤ d) (hct : CN G X.1.2.1 y cc1 nL1 d1 mc ms ρ n rt (.ref b :: As) m n2 rt2 m2) (hna : As.length = na) (hs : stk = As.reverse ++ .ref b :: st) (hcat : (st.map fun v => v.category).sum ≤ 8) (hr1 : X.2.2.1 + mc ≤ X.1.2.2.2.1.cells) (hr2 : X.2.2.2.1 + ms ≤ X.1.2.2.2.1.slots) (hlv : ∀ p ∈ lv, ∀ a, p.2 = .ref a → a < n ∨ 1000 ≤ a) (hst : ∀ v ∈ st, ∀ a, v = .ref a → a < n ∨ 1000 ≤ a)
    (k : ∀ ρ2, Ag n ρ ρ2 → Ok (bump X mc ms) G ρ2 cc nL own d → J (bump X mc ms) G ρ2 n2 nL (pc + 3) lv st rt2 m2) : J X G ρ n nL pc lv stk rt m := by
  refine J_runNL (av := (Value.ref (ρ b) :: As.map (mv ρ)).toArray) hX hr1 hr2 hlv hst (fun H locs ls hP hS hl => ?_) k
  obtain ⟨hx, hbb, hml, hown, hts, hk, hc, hs2, hfr, hlo⟩ := hX
  have hn2 : (As.map (mv ρ)).length = na := by rw [List.length_map]; exact hna
  have hstk : (stk.map (mv ρ)) = (As.map (mv ρ)).reverse ++ .ref (ρ b) :: st.map (mv ρ) := by
    rw [hs, List.map_append, List.map_reverse]; rfl
  refine va_runI (As := As.map (mv ρ)) (rest := st.map (mv ρ)) (b := ρ b) (nL := nL) (Ts := gt) (own := own) ⟨hx, hbb, hml, hown, hts⟩ hct
    (cwI na hts (gt_goodIn hw.1.2) rfl rfl rfl (hts _ (hw.1.1 _ (by simp))) (hts _ (hw.1.1 _ (by simp))) (hts _ (hw.1.1 _ (by simp))) hw.2.2.2 hw.2.1 ⟨by show d1 + 1 ≤ _; omega, by show 8 + (nL1 + 11) + 64 * d1 ≤ _; have := hw.2.2.1; omega⟩)
    ⟨Pcc_blind, fun U hU hW => ⟨rfl, by rw [hU]; exact hP, Wk_moved hW (by rw [hU]; exact hS.1) (fun a h1 h2 => by rw [hU]; exact hS.2.1 a h1 h2) hk⟩⟩ rfl hn2 hl.1 hstk (by show 2 * (F0 X.2.1.1 pc ls (stk.map (mv ρ))).monitorRoom + _ ≤ 8; exact lv_room (by rw [mv_sum]; exact hcat)) hd ⟨hr1, hr2⟩
end EntryA
theorem J_lvS {X : XX} {G : GG} {ρ : Nat → Nat} {n nL pc : Nat} {lv lv2 : List (Nat × Value)} {st : List Value} {rt : Rt} {m : Mm} (h : ∀ q ∈ lv2, q ∈ lv) (k : J X G ρ n nL pc lv2 st rt m) : J X G ρ n nL pc lv st rt m := by
  intro H locs ls hP hS hl
  refine k H locs ls hP hS ⟨hl.1, hl.2.1, fun q hq => ?_⟩
  obtain ⟨q', h1, rfl⟩ := List.mem_map.mp hq
  exact hl.2.2 _ (List.mem_map_of_mem (h q' h1))
theorem mZ_zero (k : Nat) : zeroAt mZ k := ⟨fun _ => rfl, fun _ => rfl⟩
theorem mS_zero {k : Nat} (h : k ≠ 80) : zeroAt mS k := ⟨fun i => mS_z (by omega), fun i => rfl⟩
theorem lr87_b : (lr87.all fun q => decide (q.2.2 < 78 ∧ q.1 < 78)) = true := by decide +kernel
theorem lr133_b : (lr133.all fun q => decide (q.2.2 < 125 ∧ q.1 < 125)) = true := by decide +kernel
theorem lr87_n {a k b : Nat} (h : rL lr87 a k = some b) : b < 78 ∧ a < 78 := of_decide_eq_true (List.all_eq_true.mp lr87_b _ (rL_mem h))
theorem lr133_n {a k b : Nat} (h : rL lr133 a k = some b) : b < 125 ∧ a < 125 := of_decide_eq_true (List.all_eq_true.mp lr133_b _ (rL_mem h))
theorem lr0_n {a k : Nat} : rL lr0 a k = none := rfl
/-- what a state of the law's body must be -/
def IX (p : Program) (l : Launch) (e : Env) (s : State) (m : MethodId) (below : List Frame) (meth : Method) (c : Code) (b : Nat) (X : XX) : Prop := X.1 = (p, l, e, room_1, s) ∧ X.2.1 = (m, #[Value.ref b], below, meth, c) ∧ X.2.2.2.2 = lw_Z below #[Value.ref b] s ∧ X.2.2.1 ≤ 601024 ∧ X.2.2.2.1 ≤ 7293033
theorem whole_start_open {p : Program} {e : Env} {s : State} {m : MethodId} {below : List Frame} {meth : Method} {c : Code} (l : Launch) {b L : Nat} {xs : Nat → Int32} (hL : L ≤ 3584) (C0 : lw_At p s m meth c b L xs)
    (hLost : ∀ (X : XX) (G : GG) (ρ : Nat → Nat), IX p l e s m below meth c b X → Ok X G ρ cL_law 7 RL 400 → G.2.2.1 = s.heap.size → LostR X G ρ) :
    W p l e room_1 s m #[Value.ref b] below meth c s.heap [] 0 0 (lw_Z below #[Value.ref b] s) (entryFrame m ([Value.ref b] : List Value).toArray 7) := by
  obtain ⟨hx, hb, hr, hml, hown, hts, hXs, hbl, hlocks, hgv⟩ := id C0
  obtain ⟨G, hG, hK⟩ := st_K hts s.heap.size (fun _ => 0)
  have hG1 : G.2.2.1 = s.heap.size := by rw [hG]
  have hGA : ∀ a : Nat, a < s.heap.size → ¬ GA G a := fun a ha h => by unfold GA at h; rw [hG1] at h; exact absurd ha (Nat.not_lt.mpr h)
  obtain ⟨ρ, hρ, hSk⟩ := st_Sk (G := G) hts hgv hGA b
  obtain ⟨hfr, hIn⟩ := inv_start
  have hm0 : stI mZ 80 (ix (2 : Int32)) (4 : Int32) (fun m1 => f_X11_fresh0 m1) = some mS := by
    rw [q_stI]
    exact hfr
  have hlaw : f_law L xs 513 3 10 18 22 (some 10) 0 mS = some () := lw_all hL 513 0 0 3 10 18 22 (some 10) mS (Nat.zero_le _) (by omega) (by omega) hIn
  have gtw : ∀ w ∈ gt, w.before #[Value.ref b] s = true := fun w hw => hts w (List.mem_filter.mp hw).1
  have okX : ∀ (X : XX) (ρ' : Nat → Nat), IX p l e s m below meth c b X → Sk G ρ' s → Ok X G ρ' cL_law 7 RL 400 := fun X ρ' hX hS => by
    obtain ⟨h1, h2, h3, h4, h5⟩ := hX
    unfold Ok
    rw [h1, h2]
    exact ⟨hx, hb, hml, hown, gtw, ⟨hK, hS, Nat.le_of_eq hG1⟩, h4, h5, by show 400 ≤ 2048; omega, by show 64 * 400 ≤ 84000; omega⟩
  have X0 : IX p l e s m below meth c b ((p, l, e, room_1, s), (m, #[Value.ref b], below, meth, c), (0, 0, lw_Z below #[Value.ref b] s)) := ⟨rfl, rfl, rfl, Nat.zero_le _, Nat.zero_le _⟩
  have hJ : J ((p, l, e, room_1, s), (m, #[Value.ref b], below, meth, c), (0, 0, lw_Z below #[Value.ref b] s)) G ρ 0 7 0 [(0, .ref 4000)] [] (rL lr0) mZ := by
    refine J_new (ci := 9) (N := 13) (idx := 8) (okX _ ρ X0 hSk) (by decide +kernel) nw_RL_8 (by decide +kernel) (by decide +kernel) (fun k => rfl) (fun a k h => by rw [lr0_n] at h; cases h) (mZ_zero 0) (fun q hq => by simp only [List.mem_singleton] at hq; rw [hq]; exact fun h => by cases h) (fun v hv => by cases hv) (by omega) (by show 0 + 1 ≤ 601024; omega) (by show 0 + 13 ≤ 7293033; omega) (fun q1 ok1 => ?_)
    refine J_dup ok1 (by decide +kernel) rfl ?_
    refine J_callIL (As := []) (na := 0) (b := 0) (idx := 15) (d1 := 3) (mc := 77) (ms := 7259) (n2 := 78) (rt2 := rL lr87) (m2 := mZ) ok1 (by decide +kernel) ci_RL_15 (by omega) (in_X10_init_0 (fun k _ => mZ_zero k)) rfl rfl (by decide) (by show 0 + 1 + 77 ≤ 601024; omega) (by show 0 + 13 + 7259 ≤ 7293033; omega) (fun q hq a h => by simp only [List.mem_singleton] at hq; subst hq; injection h with h; subst h; exact Or.inr (by decide)) (fun v hv a h => by simp only [List.mem_singleton] at hv; subst hv; injection h with h; subst h; exact Or.inl (by decide)) (fun ρ2 ag2 ok2 => ?_)
    refine J_astore_n (z := 1) ok2 [(1, .ref 0), (0, .ref 4000)] (by decide +kernel) (i := 1) rfl (by omega) rfl ?_
    refine J_new (ci := 10) (N := 59) (idx := 16) ok2 (by decide +kernel) nw_RL_16 (by decide +kernel) (by decide +kernel) (fun k => by
      cases h : rL lr87 78 k with
      | none => rfl
      | some b => exact absurd (lr87_n h).2 (by omega)) (fun a k h => absurd (lr87_n h).1 (by omega)) (mZ_zero 78) (fun q hq => by
      simp only [List.mem_cons, List.not_mem_nil, or_false] at hq
      rcases hq with rfl | rfl
      · exact fun h => by cases h
      · exact fun h => by cases h) (fun v hv => by cases hv) (by omega) (by show 0 + 1 + 77 + 1 ≤ 601024; omega) (by show 0 + 13 + 7259 + 59 ≤ 7293033; omega) (fun q3 ok3 => ?_)
    refine J_dup ok3 (by decide +kernel) rfl ?_
    refine J_callIL (As := []) (na := 0) (b := 78) (idx := 18) (d1 := 1) (mc := 46) (ms := 9655) (n2 := 125) (rt2 := rL lr133) (m2 := mS) ok3 (by decide +kernel) ci_RL_18 (by omega) (in_X11_init_78 (fun k _ => mZ_zero k) hm0) rfl rfl (by decide) (by show 0 + 1 + 77 + 1 + 46 ≤ 601024; omega) (by show 0 + 13 + 7259 + 59 + 9655 ≤ 7293033; omega) (fun q hq a h => by
      simp only [List.mem_cons, List.not_mem_nil, or_false] at hq
      rcases hq with rfl | rfl
      · injection h with h; subst h; exact Or.inl (by decide)
      · injection h with h; subst h; exact Or.inr (by decide)) (fun v hv a h => by simp only [List.mem_singleton] at hv; subst hv; injection h with h; subst h; exact Or.inl (by decide)) (fun ρ4 ag4 ok4 => ?_)
    refine J_astore_n (z := 2) ok4 [(2, .ref 78), (1, .ref 0), (0, .ref 4000)] (by decide +kernel) (i := 2) rfl (by omega) rfl ?_
    refine J_iconst (z := 1) ok4 1 (by decide +kernel) (by decide) ?_
    refine J_newarr (atype := .long) (t := 15) (len := 1) (ty := .long) ok4 (by decide +kernel) rfl (gt_of (List.mem_of_getElem? (i := 1962) (by decide +kernel)) rfl) (by decide +kernel) (by simp) (by decide) (by decide) (by omega) (fun a k h => absurd (lr133_n h).1 (by omega)) (mS_zero (by omega)) (fun q hq => by
      simp only [List.mem_cons, List.not_mem_nil, or_false] at hq
      rcases hq with rfl | rfl | rfl
      · exact fun h => by cases h
      · exact fun h => by cases h
      · exact fun h => by cases h) (fun v hv => by cases hv) (by omega) (by show 0 + 1 + 77 + 1 + 46 + 1 ≤ 601024; omega) (by show 0 + 13 + 7259 + 59 + 9655 + 1 ≤ 7293033; omega) (fun q5 ok5 => ?_)
    refine J_astore_n (z := 3) ok5 [(3, .ref 125), (2, .ref 78), (1, .ref 0), (0, .ref 4000)] (by decide +kernel) (i := 3) rfl (by omega) rfl ?_
    refine J_iconst (z := 0) ok5 0 (by decide +kernel) (by decide) ?_
    refine J_istore ok5 [(4, .int 0), (3, .ref 125), (2, .ref 78), (1, .ref 0), (0, .ref 4000)] (by decide +kernel) (by omega) rfl ?_
    refine J_rtB rt_cE ?_
    refine J_lvS (lv2 := [(0, .ref 4000), (1, .ref 0), (2, .ref 78), (3, .ref 125), (4, .int 0)]) (fun q hq => by
      simp only [List.mem_cons, List.not_mem_nil, or_false] at hq ⊢
      rcases hq with h | h | h | h | h
      · exact Or.inr (Or.inr (Or.inr (Or.inr h)))
      · exact Or.inr (Or.inr (Or.inr (Or.inl h)))
      · exact Or.inr (Or.inr (Or.inl h))
      · exact Or.inr (Or.inl h)
      · exact Or.inl h) ?_
    have e4000 : upN ρ4 125 q5 4000 = b := by
      rw [upN_ne (by omega), ag4 4000 (Or.inr (by omega)), upN_ne (by omega), ag2 4000 (Or.inr (by omega)), upN_ne (by omega)]
      exact hρ
    have hSk5 : Sk G (upN ρ4 125 q5) s := ok5.2.2.2.2.2.1.2.1
    generalize upN ρ4 125 q5 = ρ5 at e4000 hSk5
    refine t_law (d := 400) (L := L) (xs := xs) (Nat.le_refl _) (IX p l e s m below meth c b) (fun X hX => ⟨okX X ρ5 hX hSk5, hLost X G ρ5 hX (okX X ρ5 hX hSk5) hG1, ?_⟩) (fun X hX h1 h2 => ?_) (fun X hX lv rt m' => ?_) 513 _ 3 10 18 22 (some 10) 0 mS ⟨rfl, rfl, rfl, by show 0 + 1 + 77 + 1 + 46 + 1 ≤ 601024; omega, by show 0 + 13 + 7259 + 59 + 9655 + 1 ≤ 7293033; omega⟩ (by show 0 + 1 + 77 + 1 + 46 + 1 + 513 ≤ 601024; omega) (by show 0 + 13 + 7259 + 59 + 9655 + 1 + 6 * 513 ≤ 7293033; omega) (Or.inl rfl) (Or.inr rfl) (Or.inl rfl) (Or.inr rfl) (fun b h => by cases h; exact Or.inr rfl) hlaw
    · unfold Scr
      rw [hX.1, e4000]
      exact ⟨hXs, hbl, hGA b hbl⟩
    · have e1 := hX.1
      refine ⟨hX.1, hX.2.1, hX.2.2.1, ?_, ?_⟩
      · rw [e1] at h1; exact h1
      · rw [e1] at h2; exact h2
    · intro H locs ls hP hS hl
      obtain ⟨⟨p', l', e', R', s'⟩, ⟨m2, args', below', meth', c'⟩, ⟨cells, slots, Q⟩⟩ := X
      obtain ⟨x1, x2, x3, x4, x5⟩ := hX
      cases x1
      cases x2
      cases x3
      refine lv_iconst hx hb (n := 1) (v := 1) (by decide +kernel) (by decide) ?_
      refine va_forget (fun q hq => ?_) (W.widen x4 x5 (lw_ret hx hb hr hlocks (by decide +kernel)))
      have := hS.2.2 q hq
      unfold GA at this
      rw [hG1] at this
      exact this
  have hw0 : Wp G ρ 0 (rL lr0) mZ s.heap := by
    unfold Wp va_P va_D wl
    exact ⟨fun k q h => by simp at h, fun i j p q h => by simp at h, fun k q h => by simp at h⟩
  rw [lg_entry_eq]
  have hl := lv_entry [Value.ref b] (n := 7) (by show 1 ≤ 7; omega)
  have el : lv_args 0 [Value.ref b] = [(0, Value.ref 4000)].map (mq ρ) := by
    show [(0, Value.ref b)] = [(0, Value.ref (ρ 4000))]
    rw [hρ]
  rw [el] at hl
  exact hJ s.heap [] _ hw0 va_S.rf hl
