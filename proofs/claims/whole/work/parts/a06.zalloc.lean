theorem cE_rt {G : GG} {ρ : Nat → Nat} {rt rt2 : Rt} {m : Mm} {c : Nat} (h : ∀ j, rt2 c j = rt c j) : cE G ρ rt2 m c = cE G ρ rt m c := by
  have e : ∀ t j, fv t ρ rt2 m c j = fv t ρ rt m c j := fun t j => by simp only [fv, h j]
  simp only [cE, flds, e, h]
/-! NEW CELLS: the world grows by the cell number n, at the heap's end -/
def upN (ρ : Nat → Nat) (n q : Nat) : Nat → Nat := fun b => if b = n then q else ρ b
theorem upN_ne {ρ : Nat → Nat} {n q b : Nat} (h : b ≠ n) : upN ρ n q b = ρ b := if_neg h
theorem upN_self {ρ : Nat → Nat} {n q : Nat} : upN ρ n q n = q := if_pos rfl
theorem map_rho {ρ ρ2 : Nat → Nat} {o : Option Nat} (h : ∀ b, o = some b → ρ2 b = ρ b) : o.map ρ2 = o.map ρ := by
  cases o with
  | none => rfl
  | some b => simp [h b rfl]
theorem cE_rho {G : GG} {ρ ρ2 : Nat → Nat} {rt : Rt} {m : Mm} {a : Nat} (h : ∀ k b, rt a k = some b → ρ2 b = ρ b) : cE G ρ2 rt m a = cE G ρ rt m a := by
  have e0 : ∀ k, (rt a k).map ρ2 = (rt a k).map ρ := fun k => map_rho (h k)
  have e : ∀ t j, fv t ρ2 rt m a j = fv t ρ rt m a j := fun t j => by simp only [fv, e0]
  simp only [cE, flds, e, e0]
theorem wl_grow {G : GG} {ρ : Nat → Nat} {rt : Rt} {m : Mm} {n q : Nat} {e : va_E} (hnr : ∀ a k, a < n → rt a k ≠ some n) (he : cE G (upN ρ n q) rt m n = e) : wl G ρ rt m n ++ [(q, e)] = wl G (upN ρ n q) rt m (n + 1) := by
  unfold wl
  rw [List.range_succ, List.map_append]
  congr 1
  · apply List.map_congr_left
    intro a ha
    have hl : a < n := List.mem_range.mp ha
    rw [upN_ne (Nat.ne_of_lt hl), cE_rho (fun k b hb => upN_ne (fun z => hnr a k hl (by rw [hb, z])))]
  · simp [upN_self, he]
theorem mv_up {ρ : Nat → Nat} {n q : Nat} {v : Value} (h : v ≠ .ref n) : mv (upN ρ n q) v = mv ρ v := by
  cases v with
  | ref a => simp only [mv]; rw [upN_ne (fun z => h (by rw [z]))]
  | _ => rfl
theorem st_up {ρ : Nat → Nat} {n q : Nat} {st : List Value} (h : ∀ v ∈ st, v ≠ .ref n) : st.map (mv (upN ρ n q)) = st.map (mv ρ) := List.map_congr_left fun v hv => mv_up (h v hv)
theorem lv_up {ρ : Nat → Nat} {n q : Nat} {lv : List (Nat × Value)} (h : ∀ p ∈ lv, p.2 ≠ .ref n) : lv.map (mq (upN ρ n q)) = lv.map (mq ρ) := List.map_congr_left fun p hp => by simp only [mq, mv_up (h p hp)]
def bump (X : XX) (k s : Nat) : XX := (X.1, X.2.1, (X.2.2.1 + k, X.2.2.2.1 + s, X.2.2.2.2))
theorem Sk_rho {G : GG} {ρ ρ2 : Nat → Nat} {U : State} (h : ∀ b, 1000 ≤ b → ρ2 b = ρ b) (hk : Sk G ρ U) : Sk G ρ2 U := by
  have e1 : (fun k => ρ2 (1000 + k)) = fun k => ρ (1000 + k) := by funext k; exact h _ (by omega)
  have e2 : (fun k => ρ2 (2000 + k)) = fun k => ρ (2000 + k) := by funext k; exact h _ (by omega)
  obtain ⟨a, b, c, d, f⟩ := hk
  refine ⟨by rw [e1, e2]; exact a, b, by rw [h 3000 (by omega)]; exact c, fun k q hq => by rw [h _ (by omega)]; exact d k q hq, f⟩
theorem Ok_bump {X : XX} {G : GG} {ρ ρ2 : Nat → Nat} {cc : ByteArray} {nL : Nat} {own : String} {d k s : Nat} (hX : Ok X G ρ cc nL own d) (hr : ∀ b, 1000 ≤ b → ρ2 b = ρ b) (h1 : X.2.2.1 + k ≤ X.1.2.2.2.1.cells) (h2 : X.2.2.2.1 + s ≤ X.1.2.2.2.1.slots) : Ok (bump X k s) G ρ2 cc nL own d := by
  obtain ⟨a1, a2, a3, a4, a5, ⟨a6, a7, a8⟩, a9, a10, a11, a12⟩ := hX
  exact ⟨a1, a2, a3, a4, a5, ⟨a6, Sk_rho hr a7, a8⟩, h1, h2, a11, a12⟩
/-- the references of a list: (object, field, cell) -/
def rL (l : List (Nat × Nat × Nat)) : Rt := fun a k => match l with
  | [] => none
  | q :: l => if a = q.1 ∧ k = q.2.1 then some q.2.2 else rL l a k
theorem rL_mem : ∀ {l : List (Nat × Nat × Nat)} {a k b : Nat}, rL l a k = some b → (a, k, b) ∈ l
  | [], a, k, b, h => by cases h
  | q :: l, a, k, b, h => by
    by_cases hc : a = q.1 ∧ k = q.2.1
    · rw [rL, if_pos hc] at h
      obtain ⟨rfl, rfl⟩ := hc
      cases h
      exact List.mem_cons_self
    · rw [rL, if_neg hc] at h
      exact List.mem_cons_of_mem _ (rL_mem h)
/-- no reference of the list comes from n, or goes to it -/
def rfree (l : List (Nat × Nat × Nat)) (n : Nat) : Bool := l.all fun q => !(q.1 == n) && !(q.2.2 == n)
theorem rfree_none {l : List (Nat × Nat × Nat)} {n : Nat} (h : rfree l n = true) : ∀ k, rL l n k = none := fun k => by
  cases hq : rL l n k with
  | none => rfl
  | some b =>
    have h1 := List.all_eq_true.mp h _ (rL_mem hq)
    simp at h1
theorem rfree_ne {l : List (Nat × Nat × Nat)} {n : Nat} (h : rfree l n = true) : ∀ a k, rL l a k ≠ some n := fun a k hq => by
  have h1 := List.all_eq_true.mp h _ (rL_mem hq)
  simp at h1
def zeroAt (m : Mm) (n : Nat) : Prop := (∀ k, m.1 n k = 0) ∧ ∀ k, m.2 n k = 0
section Alloc
variable {X : XX} {G : GG} {ρ : Nat → Nat} {n : Nat} {cc : ByteArray} {nL : Nat} {own : String} {d pc : Nat} {lv : List (Nat × Value)} {st : List Value} {rt : Rt} {m : Mm} {idx : Nat}
/-- what 'new' of a class rests on -/
def NwC (own : String) (idx ci : Nat) : Prop := ∃ (C : String) (T : u_T) (N : Nat) (ty : Nat → FieldType), vwCl[ci]? = some (C, T, N) ∧ (∀ w ∈ u_ws C T N, w ∈ gt) ∧ N = (ftab ci).length ∧ ci < 11 ∧ (∀ k, k < N → parseFieldDescriptor (T k).2.2.1 = some (ty k)) ∧ Cond.classLink own idx C ∈ gt ∧ Cond.instantiable C N ∈ gt ∧ Cond.initialized C ∈ gt ∧ (∀ j, j < N → defaultValue (ty j) = if (ftab ci).getD j 0 = 0 then .int 0 else if (ftab ci).getD j 0 = 1 then .long 0 else .null)
theorem J_new (hX : Ok X G ρ cc nL own d) {ci N : Nat} (hd : decode cc pc = .ok (.new idx, 3)) (hw : NwC own idx ci) (hl : lay n = (ci, N)) (hN : N = (ftab ci).length) (hrt : ∀ k, rt n k = none) (hnr : ∀ a k, rt a k ≠ some n) (hz : zeroAt m n) (hlv : ∀ p ∈ lv, p.2 ≠ .ref n) (hst : ∀ v ∈ st, v ≠ .ref n) (hn : n < 1000) (hr1 : X.2.2.1 + 1 ≤ X.1.2.2.2.1.cells) (hr2 : X.2.2.2.1 + N ≤ X.1.2.2.2.1.slots)
    (k : ∀ q : Nat, Ok (bump X 1 N) G (upN ρ n q) cc nL own d → J (bump X 1 N) G (upN ρ n q) (n + 1) nL (pc + 3) lv (.ref n :: st) rt m) : J X G ρ n nL pc lv st rt m := by
  intro H locs ls hP hS hlh
  obtain ⟨C, T, N1, ty, h1, h2, h3, h4, h5, h6, h7, h8, h9⟩ := hw
  have hNN : N1 = N := by rw [h3, hN]
  subst hNN
  have hts := hX.2.2.2.2.1
  refine va_new (ci := ci) (fs := flds (ftab ci) (upN ρ n 0) rt m n) hX.1 hX.2.1 hts h2 ty h5 hX.2.2.2.1 (hts _ h6) (hts _ h7) (hts _ h8) hX.2.2.2.2.2.1.1 hP.1 hP.2 hS (fun q hq => Nat.le_trans hX.2.2.2.2.2.1.2.2 hq) h1 (fun j hj => ?_) hr1 hr2 hd (fun q H1 p1 d1 s1 => ?_)
  · have hj2 : j < (ftab ci).length := by omega
    have e2 : (flds (ftab ci) (upN ρ n 0) rt m n).getD j .null = fv ((ftab ci).getD j 0) (upN ρ n 0) rt m n j := by
      rw [List.getD_eq_getElem?_getD, flds_get hj2]; rfl
    rw [h9 j hj]
    show _ = (flds (ftab ci) (upN ρ n 0) rt m n).getD j .null
    rw [e2]
    simp only [fv, hz.1, hz.2, hrt, Option.map_none, va_rf]
  · have he : cE G (upN ρ n q) rt m n = .inr (ci, flds (ftab ci) (upN ρ n 0) rt m n) := by
      rw [cE_obj (by rw [hl]) h4]
      congr 2
      simp only [flds, fv, hrt, Option.map_none]
    rw [wl_grow (fun a k _ => hnr a k) he] at p1 d1
    have hk := k q (Ok_bump hX (fun b hb => upN_ne (by omega)) hr1 hr2) H1 locs ls ⟨p1, d1⟩ s1 (by rw [lv_up hlv]; exact hlh)
    have e : ((Value.ref n :: st).map (mv (upN ρ n q))) = .ref q :: st.map (mv ρ) := by rw [List.map_cons, st_up hst]; simp [mv, upN_self]
    rw [e] at hk
    exact hk
theorem J_newarr (hX : Ok X G ρ cc nL own d) {atype : ArrayType} {t len : Nat} {ty : FieldType} {x : Int32} (hd : decode cc pc = .ok (.newarray atype, 2)) (hty : newarray.typeOf atype = ty) (hw : Cond.arrayClass ty ∈ gt) (hl : lay n = (t, len)) (ht : (t = 12 ∧ ty = .int) ∨ (t = 11 ∧ ty = .char) ∨ (t = 13 ∧ ty = .boolean) ∨ (t = 15 ∧ ty = .long)) (hx : ¬ x < 0) (hxl : x.toNatClampNeg = len) (hlen : len ≤ 10000) (hnr : ∀ a k, rt a k ≠ some n) (hz : zeroAt m n) (hlv : ∀ p ∈ lv, p.2 ≠ .ref n) (hst : ∀ v ∈ st, v ≠ .ref n) (hn : n < 1000) (hr1 : X.2.2.1 + 1 ≤ X.1.2.2.2.1.cells) (hr2 : X.2.2.2.1 + len ≤ X.1.2.2.2.1.slots)
    (k : ∀ q : Nat, Ok (bump X 1 len) G (upN ρ n q) cc nL own d → J (bump X 1 len) G (upN ρ n q) (n + 1) nL (pc + 2) lv (.ref n :: st) rt m) : J X G ρ n nL pc lv (.int x :: st) rt m := by
  intro H locs ls hP hS hlh
  have hts := hX.2.2.2.2.1
  have hA : ∀ q, X.1.2.2.2.2.heap.size ≤ q → GA G q := fun q hq => Nat.le_trans hX.2.2.2.2.2.1.2.2 hq
  have hK := hX.2.2.2.2.2.1.1
  have fin : ∀ (q : Nat) (H1 : Heap) (e : va_E), cE G (upN ρ n q) rt m n = e → va_P G.1 vwCl (wl G ρ rt m n ++ [(q, e)]) H1 → va_D (GA G) (wl G ρ rt m n ++ [(q, e)]) → va_S (GA G) X.1.2.2.2.2.heap H1 locs → W X.1.1 X.1.2.1 X.1.2.2.1 X.1.2.2.2.1 X.1.2.2.2.2 X.2.1.1 X.2.1.2.1 X.2.1.2.2.1 X.2.1.2.2.2.1 X.2.1.2.2.2.2 H1 locs (X.2.2.1 + 1) (X.2.2.2.1 + len) X.2.2.2.2 (F0 X.2.1.1 (pc + 2) ls (.ref q :: st.map (mv ρ))) := by
    intro q H1 e he p1 d1 s1
    rw [wl_grow (fun a k _ => hnr a k) he] at p1 d1
    have hk := k q (Ok_bump hX (fun b hb => upN_ne (by omega)) hr1 hr2) H1 locs ls ⟨p1, d1⟩ s1 (by rw [lv_up hlv]; exact hlh)
    have e : ((Value.ref n :: st).map (mv (upN ρ n q))) = .ref q :: st.map (mv ρ) := by rw [List.map_cons, st_up hst]; simp [mv, upN_self]
    rw [e] at hk
    exact hk
  have z1 : m.1 n = fun _ => 0 := funext hz.1
  have z2 : m.2 n = fun _ => 0 := funext hz.2
  have same : ∀ (t0 : Nat) (cA : ClassId), (tysG G)[t0]? = some (G.2.1 t0, ty) → va_K G.1 vwCl (tysG G ++ [(cA, ty)]) X.1.2.2.2.2 → (∀ C, ty ≠ .object C) → cA = G.2.1 t0 := by
    intro t0 cA h1 h2 h3
    have a1 := (h2.2 t0 (G.2.1 t0, ty) (by rw [List.getElem?_append_left (List.getElem?_eq_some_iff.mp h1).1]; exact h1)).2
    have a2 := (h2.2 5 (cA, ty) rfl).2
    have b1 : X.1.2.2.2.2.vm.findClass ("[" ++ ty.toString) = some (G.2.1 t0) := by cases ty <;> first | exact a1 | exact absurd rfl (h3 _)
    have b2 : X.1.2.2.2.2.vm.findClass ("[" ++ ty.toString) = some cA := by cases ty <;> first | exact a2 | exact absurd rfl (h3 _)
    exact Option.some.inj (b2.symm.trans b1)
  rcases ht with ⟨rfl, rfl⟩ | ⟨rfl, rfl⟩ | ⟨rfl, rfl⟩ | ⟨rfl, rfl⟩
  · refine va_newa (a0 := (len, .inl fun _ => 0)) hX.1 hX.2.1 (by rw [hty]; exact hts _ hw) hty hK hP.1 hP.2 hS hA (fun _ => rfl) hx hxl (by simp [componentBytes]; omega) hr1 hr2 hd (fun q cA H1 k1 p1 d1 s1 => fin q H1 _ ?_ p1 d1 s1)
    rw [same 1 cA rfl k1 (fun C h => by cases h), cE_int hl (by decide) (by decide), z1]
  · refine va_newa (a0 := (len, .inl fun _ => 0)) hX.1 hX.2.1 (by rw [hty]; exact hts _ hw) hty hK hP.1 hP.2 hS hA (fun _ => rfl) hx hxl (by simp [componentBytes]; omega) hr1 hr2 hd (fun q cA H1 k1 p1 d1 s1 => fin q H1 _ ?_ p1 d1 s1)
    rw [same 0 cA rfl k1 (fun C h => by cases h), cE_int hl (by decide) (by decide), z1]
  · refine va_newa (a0 := (len, .inl fun _ => 0)) hX.1 hX.2.1 (by rw [hty]; exact hts _ hw) hty hK hP.1 hP.2 hS hA (fun _ => rfl) hx hxl (by simp [componentBytes]; omega) hr1 hr2 hd (fun q cA H1 k1 p1 d1 s1 => fin q H1 _ ?_ p1 d1 s1)
    rw [same 2 cA rfl k1 (fun C h => by cases h), cE_int hl (by decide) (by decide), z1]
  · refine va_newa (a0 := (len, .inr (.inl fun _ => 0))) hX.1 hX.2.1 (by rw [hty]; exact hts _ hw) hty hK hP.1 hP.2 hS hA (fun _ => rfl) hx hxl (by simp [componentBytes]; omega) hr1 hr2 hd (fun q cA H1 k1 p1 d1 s1 => fin q H1 _ ?_ p1 d1 s1)
    rw [same 4 cA rfl k1 (fun C h => by cases h), cE_long hl, z2]
theorem J_anew (hX : Ok X G ρ cc nL own d) {len : Nat} {x : Int32} (hd : decode cc pc = .ok (.anewarray idx, 3)) (hw : Cond.classLink own idx "ParitySpread$State" ∈ gt) (hl : lay n = (14, len)) (hx : ¬ x < 0) (hxl : x.toNatClampNeg = len) (hlen : len ≤ 10000) (hrt : ∀ k, rt n k = none) (hnr : ∀ a k, rt a k ≠ some n) (hlv : ∀ p ∈ lv, p.2 ≠ .ref n) (hst : ∀ v ∈ st, v ≠ .ref n) (hn : n < 1000) (hr1 : X.2.2.1 + 1 ≤ X.1.2.2.2.1.cells) (hr2 : X.2.2.2.1 + len ≤ X.1.2.2.2.1.slots)
    (k : ∀ q : Nat, Ok (bump X 1 len) G (upN ρ n q) cc nL own d → J (bump X 1 len) G (upN ρ n q) (n + 1) nL (pc + 3) lv (.ref n :: st) rt m) : J X G ρ n nL pc lv (.int x :: st) rt m := by
  intro H locs ls hP hS hlh
  have hts := hX.2.2.2.2.1
  have hA : ∀ q, X.1.2.2.2.2.heap.size ≤ q → GA G q := fun q hq => Nat.le_trans hX.2.2.2.2.2.1.2.2 hq
  have hK := hX.2.2.2.2.2.1.1
  refine va_newq hX.1 hX.2.1 hX.2.2.2.1 (hts _ hw) hX.2.2.2.2.2.1.2.1.2.2.2.2.1 hK hP.1 hP.2 hS hA hx hxl (by omega) hr1 hr2 hd (fun q cA H1 k1 p1 d1 s1 => ?_)
  have a1 := (k1.2 3 (G.2.1 3, .object "ParitySpread$State") rfl).2
  have a2 := (k1.2 5 (cA, .object "ParitySpread$State") rfl).2
  have hc : cA = G.2.1 3 := by
    obtain ⟨_, _, -, -, -, b1⟩ := a1
    obtain ⟨_, _, -, -, -, b2⟩ := a2
    exact Option.some.inj (b2.symm.trans b1)
  have he : cE G (upN ρ n q) rt m n = .inl (cA, len, .inr (.inr (.inr (.inr fun _ => none)))) := by
    rw [cE_ref hl, hc]
    simp only [hrt, Option.map_none]
  rw [wl_grow (fun a k _ => hnr a k) he] at p1 d1
  have hk := k q (Ok_bump hX (fun b hb => upN_ne (by omega)) hr1 hr2) H1 locs ls ⟨p1, d1⟩ s1 (by rw [lv_up hlv]; exact hlh)
  have e : ((Value.ref n :: st).map (mv (upN ρ n q))) = .ref q :: st.map (mv ρ) := by rw [List.map_cons, st_up hst]; simp [mv, upN_self]
  rw [e] at hk
  exact hk
theorem J_aast (hX : Ok X G ρ cc nL own d) {a b len : Nat} {i : Int32} (rt2 : Rt) (hd : decode cc pc = .ok (.aastore, 1)) (ha : a < n) (hla : lay a = (14, len)) (hi : inb i len = true) (hb : b < n) (hlb : (lay b).1 = 5) (h1 : rt2 a (ix i) = some b) (h2 : ∀ c j, ¬ (c = a ∧ j = ix i) → rt2 c j = rt c j) (k : J X G ρ n nL (pc + 1) lv st rt2 m) : J X G ρ n nL pc lv (.ref b :: .int i :: .ref a :: st) rt m := by
  intro H locs ls hP hS hl
  refine va_astq (r := (RX6, TX6, 8)) (vs := flds (ftab 5) ρ rt m b) hX.1 hX.2.1 hX.2.2.2.2.2.1.1 hP.1 hP.2 hS a 3 b 5 (by rw [wl_get _ _ _ _ ha, cE_ref hla] <;> rfl) rfl (by rw [wl_get _ _ _ _ hb, cE_obj hlb (by decide)]) rfl (inb_in hi) hd (fun H1 locs1 p1 d1 s1 => ?_)
  have hset : (wl G ρ rt m n).set a (ρ a, .inl (G.2.1 3, len, .inr (.inr (.inr (.inr (va_up (fun j => (rt a j).map ρ) i.toNatClampNeg (some (ρ b)))))))) = wl G ρ rt2 m n := wl_set (by
    rw [cE_ref hla]
    have ef : (fun j => (rt2 a j).map ρ) = va_up (fun j => (rt a j).map ρ) i.toNatClampNeg (some (ρ b)) := by
     funext j
     by_cases hj : j = i.toNatClampNeg
     · subst hj
       rw [show rt2 a i.toNatClampNeg = some b from h1]
       simp [va_up]
     · rw [h2 a j (fun z => hj z.2)]
       simp [va_up, hj]
    rw [ef]) (fun c hc => cE_rt fun j => h2 c j (fun z => hc z.1))
  rw [hset] at p1 d1
  exact k H1 locs1 ls ⟨p1, d1⟩ s1 hl
theorem J_objinit (hX : Ok X G ρ cc nL own d) {a : Nat} (hd : decode cc pc = .ok (.invokespecial idx, 3)) (hd1 : 1 ≤ d) (hw : ∀ w ∈ ([.methodLink own idx Lib.objectInit, .instanceMethod Lib.objectInit, .code Lib.objectInit ⟨#[0xb1]⟩ 1 none] : List Cond), w ∈ gt) (hcat : (st.map fun v => v.category).sum ≤ 8) (k : J X G ρ n nL (pc + 3) lv st rt m) : J X G ρ n nL pc lv (.ref a :: st) rt m := by
  intro H locs ls hP hS hl
  obtain ⟨hx, hbb, hml, hown, hts, hk, hc, hs2, hfr, hlo⟩ := hX
  refine W.objInit hx hbb hown (hts _ (hw _ (by simp))) (hts _ (hw _ (by simp))) (hts _ (hw _ (by simp))) rfl (by rw [hml]; exact hl.1) rfl hd (by omega) ?_ (k H locs ls hP hS hl)
  have h8 := lv_room (m := X.2.1.1) (pc := pc) (ls := ls) (rest := (Value.ref a :: st).map (mv ρ)) (st := st.map (mv ρ)) (by rw [mv_sum]; exact hcat)
  show 2 * (F0 X.2.1.1 pc ls ((Value.ref a :: st).map (mv ρ))).monitorRoom + ((st.map (mv ρ)).map fun v => v.category).sum + 12 ≤ _
  omega
/-- a final field, written by its constructor -/
def PF (own : String) (idx ci k : Nat) (ty : FieldType) : Prop := ∃ (C : String) (T : u_T) (N : Nat), vwCl[ci]? = some (C, T, N) ∧ (∀ w ∈ u_ws C T N, w ∈ gt) ∧ k < N ∧ N = (ftab ci).length ∧ ci < 11 ∧ Cond.fieldLink own idx (T k).1 (T k).2.1 (T k).2.2.1 ∈ gt ∧ (∃ ty0 : Nat → FieldType, ∀ k, k < N → parseFieldDescriptor (T k).2.2.1 = some (ty0 k)) ∧ (∀ a, a < N → ∀ b, b < N → a ≠ b → (T a).2.1 ≠ (T b).2.1) ∧ (T k).2.2.2 = true ∧ (T k).1 = own ∧ parseFieldDescriptor (T k).2.2.1 = some ty
theorem J_putRF (rt2 : Rt) (hX : Ok X G ρ cc nL own d) (hin : X.2.1.2.2.2.1.name = "<init>") {ci k a b : Nat} {ty : FieldType} (hd : decode cc pc = .ok (.putfield idx, 3)) (hf : PF own idx ci k ty) (ha : a < n) (hla : (lay a).1 = ci) (ht : (ftab ci).getD k 0 = 2) (hn : ∀ q, narrow ty (.ref q) = .ref q) (hfit : ∀ q, fits ty (.ref q) = true)
    (h1 : rt2 a k = some b) (h2 : ∀ c j, ¬ (c = a ∧ j = k) → rt2 c j = rt c j) (k1 : J X G ρ n nL (pc + 3) lv st rt2 m) : J X G ρ n nL pc lv (.ref b :: .ref a :: st) rt m := by
  intro H locs ls hP hS hl
  obtain ⟨C, T, N, e1, e2, e3, e4, e5, e6, ⟨ty0, e7⟩, e8, e9, e9b, e10⟩ := hf
  have hg : (wl G ρ rt m n)[a]? = some (ρ a, .inr (ci, flds (ftab ci) ρ rt m a)) := by rw [wl_get _ _ _ _ ha, cE_obj hla e5]
  refine va_putF (v := .ref (ρ b)) hX.1 hX.2.1 hX.2.2.2.2.1 e2 ty0 e7 e8 hX.2.2.2.1 hX.2.2.2.2.2.1.1 hP.1 hP.2 hS a hg e1 k e3 (hX.2.2.2.2.1 _ e6) (fun _ h9 => h9) e9 hin e9b e10 (hn _) (hfit _) (by rw [flds_len, ← e4]; exact e3) hd (fun H1 locs1 p1 d1 s1 => ?_)
  have hset : (wl G ρ rt m n).set a (ρ a, .inr (ci, (flds (ftab ci) ρ rt m a).set k (.ref (ρ b)))) = wl G ρ rt2 m n := wl_set (by rw [cE_obj hla e5, flds_set (rt' := rt2) (m' := m) (v := .ref (ρ b)) (by rw [ht]; simp [fv, h1, va_rf]) (fun j hj => by simp only [fv, h2 a j (fun z => hj z.2)])]) (fun c hc => cE_rt fun j => h2 c j (fun z => hc z.1))
  rw [hset] at p1 d1
  exact k1 H1 locs1 ls ⟨p1, d1⟩ s1 hl
theorem rL_new {l : List (Nat × Nat × Nat)} {a k b : Nat} : rL ((a, k, b) :: l) a k = some b := by rw [rL, if_pos ⟨rfl, rfl⟩]
theorem rL_old {l : List (Nat × Nat × Nat)} {a k b : Nat} : ∀ c j, ¬ (c = a ∧ j = k) → rL ((a, k, b) :: l) c j = rL l c j := fun c j h => by rw [rL, if_neg h]
/-- contracts of constructors: the world grows from n to n2 -/
def Ag (n : Nat) (ρ ρ2 : Nat → Nat) : Prop := ∀ b, (b < n ∨ 1000 ≤ b) → ρ2 b = ρ b
theorem Ag_rf {n : Nat} {ρ : Nat → Nat} : Ag n ρ ρ := fun _ _ => rfl
theorem Ag_up {n0 n q : Nat} {ρ ρ1 : Nat → Nat} (h : Ag n0 ρ ρ1) (h1 : n0 ≤ n) (h2 : n < 1000) : Ag n0 ρ (upN ρ1 n q) := fun b hb => by rw [upN_ne (by omega)]; exact h b hb
theorem Ag_tr {n0 n : Nat} {ρ ρ1 ρ2 : Nat → Nat} (h : Ag n0 ρ ρ1) (h1 : n0 ≤ n) (h2 : Ag n ρ1 ρ2) : Ag n0 ρ ρ2 := fun b hb => by rw [h2 b (by omega)]; exact h b hb
def QcN (G : GG) (ρ : Nat → Nat) (n n2 : Nat) (rt : Rt) (m : Mm) : Array Value → State → Outcome → State → Prop := fun _ st oc t => (oc = .returned none ∧ ∃ ρ2, Ag n ρ ρ2 ∧ Wp G ρ2 n2 rt m t.heap) ∧ va_F (GA G) st t
def CN (G : GG) (l : Launch) (y : MethodName) (cc : ByteArray) (nL d mc ms : Nat) (ρ : Nat → Nat) (n : Nat) (rt : Rt) (args : List Value) (m : Mm) (n2 : Nat) (rt2 : Rt) (m2 : Mm) : Prop :=
  Met l y (.code y cc nL none :: gt) (rmd d mc ms) (Pcc G ρ n rt args m) (QcN G ρ n n2 rt2 m2) mc ms (GA G)
theorem J_returnN {ρ0 : Nat → Nat} {n0 mc ms : Nat} (hX : Ok X G ρ cc nL own d) (hd : decode cc pc = .ok (.return_, 1)) (hQ : X.2.2.2.2 = MQ X.2.1.2.2.1 (QcN G ρ0 n0 n rt m) X.2.1.2.1 X.1.2.2.2.2 mc ms (GA G)) (hc : X.2.2.1 = mc) (hs : X.2.2.2.1 = ms) (hr : X.2.1.2.2.2.1.sig.returnType = none) (hlk : X.2.1.2.2.2.1.locks = false) (hag : Ag n0 ρ0 ρ) : J X G ρ n nL pc lv [] rt m := by
  intro H locs ls hP hS hl
  rw [hQ]
  subst hc; subst hs
  exact W.vret hX.1 hX.2.1 hr (fun t ht hW => ⟨⟨rfl, ρ, hag, by rw [ht]; exact hP⟩, hS.F ht⟩) hS.2.2 hd hlk
theorem cn_of_J {l : Launch} {y : MethodName} {mc ms : Nat} {args : List Value} {n2 : Nat} {rt2 : Rt} {m2 : Mm}
    (hy : plainFor y = true) (hown : y.cls = own) (hnm : y.name = "<init>") (hargs : (lg_sl args).length ≤ nL)
    (hJ : ∀ X : XX, Ok X G ρ cc nL own d → X.1.2.2.2.1 = rmd d mc ms → X.1.2.1 = l → X.2.2.1 = 0 → X.2.2.2.1 = 0 → X.2.2.2.2 = MQ X.2.1.2.2.1 (QcN G ρ n n2 rt2 m2) X.2.1.2.1 X.1.2.2.2.2 mc ms (GA G) → X.2.1.2.2.2.1.sig.returnType = none → X.2.1.2.2.2.1.locks = false → X.2.1.2.2.2.1.name = "<init>" →
      J X G ρ n nL 0 (lv_args 0 args) [] rt m) : CN G l y cc nL d mc ms ρ n rt args m n2 rt2 m2 := by
  refine MetF_ofW (cc := cc) (maxL := nL) (ret := none) hy rfl ?_
  intro p e s mi av below meth c s₁ B hml hv
  obtain ⟨rfl, hW, hk⟩ := hv
  have hts := atoms_spec (ws := .code y cc nL none :: gt) B.pre
  have hown2 : s.vm.findClass own = some mi.cls := by rw [← hown]; exact findClass_of_methodNamed B.named
  rw [lg_entry_eq]
  have hl := lv_entry (args.map (mv ρ)) (n := nL) (by rw [lg_mv]; exact hargs)
  rw [← lv_args_mv] at hl
  have hin : meth.name = "<init>" := ((name_of_methodNamed B.named B.method).1).trans hnm
  exact hJ ((p, l, e, (headSpec (.code y cc nL none :: gt) (rmd d mc ms)).room, s), (mi, (args.map (mv ρ)).toArray, below, meth, c), (0, 0, MQ below (QcN G ρ n n2 rt2 m2) (args.map (mv ρ)).toArray s mc ms (GA G)))
    ⟨B.exec, B.bytes, hml, hown2, fun w h => hts w (List.mem_cons_of_mem _ h), hk, Nat.zero_le _, Nat.zero_le _, Nat.le_refl _, Nat.le_refl _⟩ rfl rfl rfl rfl rfl B.returns B.notSynchronized hin s.heap [] _ hW va_S.rf hl
/-- behind a constructor's call -/
theorem J_runN {stk : List Value} {rt2 : Rt} {m2 : Mm} {n2 mc ms : Nat} {av : Array Value} (hX : Ok X G ρ cc nL own d) (hr1 : X.2.2.1 + mc ≤ X.1.2.2.2.1.cells) (hr2 : X.2.2.2.1 + ms ≤ X.1.2.2.2.1.slots) (hlv : ∀ p ∈ lv, ∀ a, p.2 = .ref a → a < n) (hst : ∀ v ∈ st, ∀ a, v = .ref a → a < n)
    (hr : ∀ (H : Heap) (locs : List Loc) (ls : Array Slot), Wp G ρ n rt m H → va_S (GA G) X.1.2.2.2.2.heap H locs → lv_has ls nL (lv.map (mq ρ)) → va_Run X.1.1 X.1.2.1 X.1.2.2.1 X.1.2.2.2.1 X.1.2.2.2.2 X.2.1.1 X.2.1.2.1 X.2.1.2.2.1 X.2.1.2.2.2.1 X.2.1.2.2.2.2 H locs X.2.2.1 X.2.2.2.1 mc ms (F0 X.2.1.1 pc ls (stk.map (mv ρ))) (st.map (mv ρ)) (QcN G ρ n n2 rt2 m2 av) (GA G))
    (k : ∀ ρ2, Ag n ρ ρ2 → Ok (bump X mc ms) G ρ2 cc nL own d → J (bump X mc ms) G ρ2 n2 nL (pc + 3) lv st rt2 m2) : J X G ρ n nL pc lv stk rt m := by
  intro H locs ls hP hS hl T hT XS
  obtain ⟨v, st₀, t, T', L, h0, X', hL, e1, e2, ⟨⟨hv, ρ2, hag, hp⟩, hz, hk⟩, st1⟩ := hr H locs ls hP hS hl T hT XS
  have hv2 : v = none := by cases hv; rfl
  subst hv2
  rw [h0] at hz hk
  have hS2 : va_S (GA G) X.1.2.2.2.2.heap T'.heap (locs ++ L) := ⟨Nat.le_trans hS.1 (by rw [e1]; exact hz), fun q h1 h2 => by rw [e1, hk q (Nat.lt_of_lt_of_le h1 hS.1) h2]; exact hS.2.1 q h1 h2, fun q hq => by
      rcases List.mem_append.mp hq with h | h
      · exact hS.2.2 q h
      · exact hL q h⟩
  have mve : ∀ v : Value, (∀ a, v = .ref a → a < n) → mv ρ2 v = mv ρ v := fun v hv => by
    cases v with
    | ref a => simp only [mv]; rw [hag a (Or.inl (hv a rfl))]
    | _ => rfl
  have es : st.map (mv ρ2) = st.map (mv ρ) := List.map_congr_left fun v hv => mve v (hst v hv)
  have el : lv.map (mq ρ2) = lv.map (mq ρ) := List.map_congr_left fun p hp => by simp only [mq, mve p.2 (hlv p hp)]
  obtain ⟨t2, a1, b1⟩ := k ρ2 hag (Ok_bump hX (fun b hb => hag b (Or.inr hb)) hr1 hr2) T'.heap (locs ++ L) ls (by rw [e1]; exact hp) hS2 (by rw [el]; exact hl) T' rfl X'
  refine ⟨t2, st1 t2 ?_, b1⟩
  rw [es] at a1
  exact a1
/-- what a call of a constructor rests on -/
def CwI (own : String) (idx : Nat) (y : MethodName) (cc : ByteArray) (nL na : Nat) : Prop :=
  ((∀ w ∈ ([.methodLink own idx y, .instanceMethod y, .initialized y.cls] : List Cond), w ∈ gt) ∧ Cond.code y cc nL none ∈ gt) ∧ (y.cls ≠ "java/lang/invoke/MethodHandle" ∧ y.cls ≠ "java/lang/invoke/VarHandle" ∧ (parseMethodDescriptor y.desc).map (fun d => d.parameters.length) = some na) ∧ nL + 19 ≤ 64 ∧ y.name = "<init>"
def CwIN (own : String) (idx : Nat) (y : MethodName) (cc : ByteArray) (nL na : Nat) : Prop :=
  ((∀ w ∈ ([.instanceMethod y, .initialized y.cls] : List Cond), w ∈ gt) ∧ Cond.code y cc nL none ∈ gt) ∧ (y.cls ≠ "java/lang/invoke/MethodHandle" ∧ y.cls ≠ "java/lang/invoke/VarHandle" ∧ (parseMethodDescriptor y.desc).map (fun d => d.parameters.length) = some na) ∧ nL + 19 ≤ 64 ∧ y.name = "<init>" ∧ (own, idx, y, RX10) ∈ nestL
theorem J_callI {stk As : List Value} {rt2 : Rt} {m2 : Mm} {n2 mc ms b na d1 nL1 : Nat} {y : MethodName} {cc1 : ByteArray} (hX : Ok X G ρ cc nL own d) (hd : decode cc pc = .ok (.invokespecial idx, 3)) (hw : CwI own idx y cc1 nL1 na) (hd1 : d1 + 1 ≤ d) (hct : CN G X.1.2.1 y cc1 nL1 d1 mc ms ρ n rt (.ref b :: As) m n2 rt2 m2) (hna : As.length = na) (hs : stk = As.reverse ++ .ref b :: st) (hcat : (st.map fun v => v.category).sum ≤ 8) (hr1 : X.2.2.1 + mc ≤ X.1.2.2.2.1.cells) (hr2 : X.2.2.2.1 + ms ≤ X.1.2.2.2.1.slots) (hlv : ∀ p ∈ lv, ∀ a, p.2 = .ref a → a < n) (hst : ∀ v ∈ st, ∀ a, v = .ref a → a < n)
    (k : ∀ ρ2, Ag n ρ ρ2 → Ok (bump X mc ms) G ρ2 cc nL own d → J (bump X mc ms) G ρ2 n2 nL (pc + 3) lv st rt2 m2) : J X G ρ n nL pc lv stk rt m := by
  refine J_runN (av := (Value.ref (ρ b) :: As.map (mv ρ)).toArray) hX hr1 hr2 hlv hst (fun H locs ls hP hS hl => ?_) k
  obtain ⟨hx, hbb, hml, hown, hts, hk, hc, hs2, hfr, hlo⟩ := hX
  have hn2 : (As.map (mv ρ)).length = na := by rw [List.length_map]; exact hna
  have hstk : (stk.map (mv ρ)) = (As.map (mv ρ)).reverse ++ .ref (ρ b) :: st.map (mv ρ) := by
    rw [hs, List.map_append, List.map_reverse]; rfl
  refine va_runI (As := As.map (mv ρ)) (rest := st.map (mv ρ)) (b := ρ b) (nL := nL) (Ts := gt) (own := own) ⟨hx, hbb, hml, hown, hts⟩ hct
    (cwI na hts (gt_goodIn hw.1.2) rfl rfl rfl (hts _ (hw.1.1 _ (by simp))) (hts _ (hw.1.1 _ (by simp))) (hts _ (hw.1.1 _ (by simp))) hw.2.2.2 hw.2.1 ⟨by show d1 + 1 ≤ _; omega, by show 8 + (nL1 + 11) + 64 * d1 ≤ _; have := hw.2.2.1; omega⟩)
    ⟨Pcc_blind, fun U hU hW => ⟨rfl, by rw [hU]; exact hP, Wk_moved hW (by rw [hU]; exact hS.1) (fun a h1 h2 => by rw [hU]; exact hS.2.1 a h1 h2) hk⟩⟩ rfl hn2 hl.1 hstk (by show 2 * (F0 X.2.1.1 pc ls (stk.map (mv ρ))).monitorRoom + _ ≤ 8; exact lv_room (by rw [mv_sum]; exact hcat)) hd ⟨hr1, hr2⟩
theorem J_callIN {stk As : List Value} {rt2 : Rt} {m2 : Mm} {n2 mc ms b na d1 nL1 : Nat} {y : MethodName} {cc1 : ByteArray} (hX : Ok X G ρ cc nL own d) (hd : decode cc pc = .ok (.invokespecial idx, 3)) (hw : CwIN own idx y cc1 nL1 na) (hd1 : d1 + 1 ≤ d) (hct : CN G X.1.2.1 y cc1 nL1 d1 mc ms ρ n rt (.ref b :: As) m n2 rt2 m2) (hna : As.length = na) (hs : stk = As.reverse ++ .ref b :: st) (hcat : (st.map fun v => v.category).sum ≤ 8) (hr1 : X.2.2.1 + mc ≤ X.1.2.2.2.1.cells) (hr2 : X.2.2.2.1 + ms ≤ X.1.2.2.2.1.slots) (hlv : ∀ p ∈ lv, ∀ a, p.2 = .ref a → a < n) (hst : ∀ v ∈ st, ∀ a, v = .ref a → a < n)
    (k : ∀ ρ2, Ag n ρ ρ2 → Ok (bump X mc ms) G ρ2 cc nL own d → J (bump X mc ms) G ρ2 n2 nL (pc + 3) lv st rt2 m2) : J X G ρ n nL pc lv stk rt m := by
  refine J_runN (av := (Value.ref (ρ b) :: As.map (mv ρ)).toArray) hX hr1 hr2 hlv hst (fun H locs ls hP hS hl => ?_) k
  obtain ⟨hx, hbb, hml, hown, hts, hk, hc, hs2, hfr, hlo⟩ := hX
  have hn2 : (As.map (mv ρ)).length = na := by rw [List.length_map]; exact hna
  have hstk : (stk.map (mv ρ)) = (As.map (mv ρ)).reverse ++ .ref (ρ b) :: st.map (mv ρ) := by
    rw [hs, List.map_append, List.map_reverse]; rfl
  refine va_runIN (As := As.map (mv ρ)) (rest := st.map (mv ρ)) (b := ρ b) (nL := nL) (Ts := gt) (own := own) (host := RX10) ⟨hx, hbb, hml, hown, hts⟩ hct
    ⟨va_cnB na hts (gt_goodIn hw.1.2) rfl rfl rfl (hk.2.1.2.2.2.2.2 _ hw.2.2.2.2) (hts _ (hw.1.1 _ (by simp))) hw.2.1 ⟨by show d1 + 1 ≤ _; omega, by show 8 + (nL1 + 11) + 64 * d1 ≤ _; have := hw.2.2.1; omega⟩, hw.2.2.2.1, hts _ (hw.1.1 _ (by simp))⟩
    ⟨Pcc_blind, fun U hU hW => ⟨rfl, by rw [hU]; exact hP, Wk_moved hW (by rw [hU]; exact hS.1) (fun a h1 h2 => by rw [hU]; exact hS.2.1 a h1 h2) hk⟩⟩ rfl hn2 hl.1 hstk (by show 2 * (F0 X.2.1.1 pc ls (stk.map (mv ρ))).monitorRoom + _ ≤ 8; exact lv_room (by rw [mv_sum]; exact hcat)) hd ⟨hr1, hr2⟩
end Alloc
