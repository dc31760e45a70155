section Alloc2
variable {X : XX} {G : GG} {ρ : Nat → Nat} {n : Nat} {cc : ByteArray} {nL : Nat} {own : String} {d pc : Nat} {lv : List (Nat × Value)} {st : List Value} {rt : Rt} {m : Mm} {idx : Nat}
theorem zM_zero (m : Mm) (n : Nat) : zeroAt (zM m n) n := ⟨fun k => by simp [zM], fun k => by simp [zM]⟩
theorem cE_zM {a : Nat} (h : a ≠ n) : cE G ρ rt (zM m n) a = cE G ρ rt m a := by
  have e1 : (zM m n).1 a = m.1 a := by funext j; simp [zM, h]
  have e2 : (zM m n).2 a = m.2 a := by funext j; simp [zM, h]
  have e3 : ∀ t j, fv t ρ rt (zM m n) a j = fv t ρ rt m a j := fun t j => by
    have h1 : (zM m n).1 a j = m.1 a j := by rw [e1]
    have h2 : (zM m n).2 a j = m.2 a j := by rw [e2]
    simp only [fv, h1, h2]
  simp only [cE, flds, e1, e2, e3]
theorem wl_zM : wl G ρ rt (zM m n) n = wl G ρ rt m n := by
  unfold wl
  apply List.map_congr_left
  intro a ha
  rw [cE_zM (Nat.ne_of_lt (List.mem_range.mp ha))]
theorem J_zM (k : J X G ρ n nL pc lv st rt (zM m n)) : J X G ρ n nL pc lv st rt m := by
  intro H locs ls hP hS hl
  exact k H locs ls (by unfold Wp at hP ⊢; rw [wl_zM]; exact hP) hS hl
theorem J_widen (c s : Nat) (k : J (bump X c s) G ρ n nL pc lv st rt m) : J X G ρ n nL pc lv st rt m := by
  intro H locs ls hP hS hl
  exact W.widen (Nat.le_add_right _ _) (Nat.le_add_right _ _) (k H locs ls hP hS hl)
theorem Wp_drop {q : Nat} {H : Heap} (hnr : ∀ a k, rt a k ≠ some n) (h : Wp G (upN ρ n q) (n + 1) rt m H) : Wp G ρ n rt m H := by
  have e : ∀ k : Nat, k < n → (wl G ρ rt m n)[k]? = (wl G (upN ρ n q) rt m (n + 1))[k]? := fun k hk => by
    rw [wl_get _ _ _ _ hk, wl_get _ _ _ _ (Nat.lt_succ_of_lt hk), upN_ne (Nat.ne_of_lt hk), cE_rho (fun j b hb => upN_ne (fun z => hnr k j (by rw [hb, z])))]
  have len : (wl G ρ rt m n).length = n := by simp [wl]
  refine ⟨fun k x hx => ?_, fun i j x y hx hy hxy => ?_, fun k x hx => ?_⟩
  · have hk : k < n := by rw [← len]; exact (List.getElem?_eq_some_iff.mp hx).1
    have h1 := h.1 k x (by rw [← e k hk]; exact hx)
    exact h1
  · have hi : i < n := by rw [← len]; exact (List.getElem?_eq_some_iff.mp hx).1
    have hj : j < n := by rw [← len]; exact (List.getElem?_eq_some_iff.mp hy).1
    exact h.2.1 i j x y (by rw [← e i hi]; exact hx) (by rw [← e j hj]; exact hy) hxy
  · have hk : k < n := by rw [← len]; exact (List.getElem?_eq_some_iff.mp hx).1
    exact h.2.2 k x (by rw [← e k hk]; exact hx)
/-- the newest cell is forgotten -/
theorem J_drop {q : Nat} (hnr : ∀ a k, rt a k ≠ some n) (hlv : ∀ p ∈ lv, p.2 ≠ .ref n) (hst : ∀ v ∈ st, v ≠ .ref n) (k : J X G ρ n nL pc lv st rt m) : J X G (upN ρ n q) (n + 1) nL pc lv st rt m := by
  intro H locs ls hP hS hl
  have h1 := k H locs ls (Wp_drop hnr hP) hS (by rw [← lv_up (q := q) hlv]; exact hl)
  rw [st_up hst]
  exact h1
theorem Ok_drop {q : Nat} (hn : n < 1000) (hX : Ok X G (upN ρ n q) cc nL own d) : Ok X G ρ cc nL own d := by
  obtain ⟨a1, a2, a3, a4, a5, ⟨a6, a7, a8⟩, a9⟩ := hX
  exact ⟨a1, a2, a3, a4, a5, ⟨a6, Sk_rho (fun b hb => (upN_ne (by omega)).symm) a7, a8⟩, a9⟩
/-- a call of a method that makes cells which nothing keeps -/
theorem J_runA {stk : List Value} {rt2 : Rt} {m2 : Mm} {mc ms : Nat} {ov : Option Value} {av : Array Value}
    (hr : ∀ (H : Heap) (locs : List Loc) (ls : Array Slot), Wp G ρ n rt m H → va_S (GA G) X.1.2.2.2.2.heap H locs → lv_has ls nL (lv.map (mq ρ)) → va_Run X.1.1 X.1.2.1 X.1.2.2.1 X.1.2.2.2.1 X.1.2.2.2.2 X.2.1.1 X.2.1.2.1 X.2.1.2.2.1 X.2.1.2.2.2.1 X.2.1.2.2.2.2 H locs X.2.2.1 X.2.2.2.1 mc ms (F0 X.2.1.1 pc ls (stk.map (mv ρ))) (st.map (mv ρ)) (Qcc G ρ n ov rt2 m2 av) (GA G))
    (k : J (bump X mc ms) G ρ n nL (pc + 3) lv (ov.toList ++ st) rt2 m2) : J X G ρ n nL pc lv stk rt m := by
  intro H locs ls hP hS hl T hT XS
  obtain ⟨v, st₀, t, T', L, h0, X', hL, e1, e2, ⟨⟨hv, hp⟩, hz, hk⟩, st1⟩ := hr H locs ls hP hS hl T hT XS
  have hv2 : v = ov.map (mv ρ) := by cases hv; rfl
  subst hv2
  rw [h0] at hz hk
  have hS2 : va_S (GA G) X.1.2.2.2.2.heap T'.heap (locs ++ L) := ⟨Nat.le_trans hS.1 (by rw [e1]; exact hz), fun q h1 h2 => by rw [e1, hk q (Nat.lt_of_lt_of_le h1 hS.1) h2]; exact hS.2.1 q h1 h2, fun q hq => by
      rcases List.mem_append.mp hq with h | h
      · exact hS.2.2 q h
      · exact hL q h⟩
  obtain ⟨t2, a1, b1⟩ := k T'.heap (locs ++ L) ls (by rw [e1]; exact hp) hS2 hl T' rfl X'
  refine ⟨t2, st1 t2 ?_, b1⟩
  have e : (ov.toList ++ st).map (mv ρ) = (ov.map (mv ρ)).toList ++ st.map (mv ρ) := by cases ov <;> rfl
  rw [← e]
  exact a1
theorem J_callVA {stk As : List Value} {rt2 : Rt} {m2 : Mm} {ov : Option Value} {ci b na d1 nL1 mc ms : Nat} {y : MethodName} {cc1 : ByteArray} {ret : Option FieldType} {C : String} (hX : Ok X G ρ cc nL own d) (hd : decode cc pc = .ok (.invokevirtual idx, 3)) (hw : CwV own idx C y cc1 nL1 ret na) (hd1 : d1 + 1 ≤ d)
    (hct : CT G X.1.2.1 y cc1 nL1 ret d1 mc ms ρ n rt (.ref b :: As) m ov rt2 m2) (hr1 : X.2.2.1 + mc ≤ X.1.2.2.2.1.cells) (hr2 : X.2.2.2.1 + ms ≤ X.1.2.2.2.1.slots)
    (hb : b < n) (hlb : (lay b).1 = ci) (hci : ci < 11) (hC : (vwCl[ci]?).map (·.1) = some C) (hna : As.length = na) (hs : stk = As.reverse ++ .ref b :: st) (hcat : (st.map fun v => v.category).sum ≤ 8)
    (k : J (bump X mc ms) G ρ n nL (pc + 3) lv (ov.toList ++ st) rt2 m2) : J X G ρ n nL pc lv stk rt m := by
  refine J_runA (av := (Value.ref (ρ b) :: As.map (mv ρ)).toArray) (fun H locs ls hP hS hl => ?_) k
  obtain ⟨hx, hbb, hml, hown, hts, hk, hc, hs2, hfr, hlo⟩ := hX
  have hcb : ∃ q : vw_C, vwCl[ci]? = some q ∧ q.1 = C := by
    cases hq : vwCl[ci]? with
    | none => rw [hq] at hC; cases hC
    | some q => rw [hq] at hC; exact ⟨q, rfl, Option.some.inj hC⟩
  obtain ⟨q, hq1, hq2⟩ := hcb
  have hrec := va_recv (s := X.1.2.2.2.2) hk.1 hP.1 hq1 (q0 := b) (a := ρ b) (fs := flds (ftab ci) ρ rt m b) (by rw [wl_get _ _ _ _ hb, cE_obj hlb hci])
  rw [hq2] at hrec
  have hn2 : (As.map (mv ρ)).length = na := by rw [List.length_map]; exact hna
  have hstk : (stk.map (mv ρ)) = (As.map (mv ρ)).reverse ++ .ref (ρ b) :: st.map (mv ρ) := by
    rw [hs, List.map_append, List.map_reverse]; rfl
  refine va_runV (As := As.map (mv ρ)) (rest := st.map (mv ρ)) (b := ρ b) (C := C) (nL := nL) (Ts := gt) (own := own) ⟨hx, hbb, hml, hown, hts⟩ hct
    (cwV na hts (gt_goodIn2 hw.1.2 hw.1.1) rfl rfl rfl hw.2.1 ⟨by show d1 + 1 ≤ _; omega, by show 8 + (nL1 + 11) + 64 * d1 ≤ _; have := hw.2.2; omega⟩)
    ⟨Pcc_blind, hrec, fun U hU hW => ⟨rfl, by rw [hU]; exact hP, Wk_moved hW (by rw [hU]; exact hS.1) (fun a h1 h2 => by rw [hU]; exact hS.2.1 a h1 h2) hk⟩⟩ rfl hn2 hl.1 hstk (by show 2 * (F0 X.2.1.1 pc ls (stk.map (mv ρ))).monitorRoom + _ ≤ 8; exact lv_room (by rw [mv_sum]; exact hcat)) hd ⟨hr1, hr2⟩
/-- a constructor that makes nothing, called in the world that has its object -/
theorem CN_same {l : Launch} {y : MethodName} {args : List Value} {m2 : Mm} (h : CN G l y cc nL d 0 0 ρ n rt args m n rt m2) : CN G l y cc nL d 0 0 ρ n rt args m n rt m2 := h
end Alloc2
theorem rtL_no126 : (rtL.all fun r => r.all fun o => o != some 126) = true := by decide +kernel
theorem RT_no126 {t u w v : Nat} {x : Option Nat} (ht : isTo t) (hu : isTo u) (hw : isWk w) (hv : isWk v) (hx : ∀ b, x = some b → isTo b) : ∀ a k, RT t u w v x a k ≠ some 126 := by
  intro a k
  have e1 : t ≠ 126 := by rcases ht with rfl | rfl <;> decide
  have e2 : u ≠ 126 := by rcases hu with rfl | rfl <;> decide
  have e3 : w ≠ 126 := by rcases hw with rfl | rfl <;> decide
  have e4 : v ≠ 126 := by rcases hv with rfl | rfl <;> decide
  have e5 : x ≠ some 126 := fun h => by rcases hx _ h with h | h <;> cases h
  have e6 : ((rtL.getD a []).getD k none) ≠ some 126 := by
    intro h
    have h1 : some 126 ∈ rtL.getD a [] := by
      rw [List.getD_eq_getElem?_getD] at h
      cases hq : (rtL.getD a [])[k]? with
      | none => rw [hq] at h; cases h
      | some o =>
        rw [hq] at h
        have : o = some 126 := h
        rw [← this]; exact List.mem_of_getElem? hq
    have h2 : rtL.getD a [] ∈ rtL := by
      rw [List.getD_eq_getElem?_getD] at h1 ⊢
      cases hq : rtL[a]? with
      | none => rw [hq] at h1; cases h1
      | some r => exact List.mem_of_getElem? hq
    have h3 := List.all_eq_true.mp (List.all_eq_true.mp rtL_no126 _ h2) _ h1
    simp at h3
  unfold RT
  repeat' split
  all_goals first | exact e6 | exact e5 | (intro h; exact absurd (Option.some.inj h) (by assumption))
section Alloc3
variable {X : XX} {G : GG} {ρ : Nat → Nat} {n : Nat} {cc : ByteArray} {nL : Nat} {own : String} {d pc : Nat} {lv : List (Nat × Value)} {st : List Value} {rt : Rt} {m : Mm} {idx : Nat}
theorem J_callIC {stk As : List Value} {rt2 : Rt} {m2 : Mm} {b na d1 nL1 : Nat} {y : MethodName} {cc1 : ByteArray} (hX : Ok X G ρ cc nL own d) (hd : decode cc pc = .ok (.invokespecial idx, 3)) (hw : CwI own idx y cc1 nL1 na) (hd1 : d1 + 1 ≤ d) (hct : CT G X.1.2.1 y cc1 nL1 none d1 0 0 ρ n rt (.ref b :: As) m none rt2 m2) (hna : As.length = na) (hs : stk = As.reverse ++ .ref b :: st) (hcat : (st.map fun v => v.category).sum ≤ 8)
    (k : J X G ρ n nL (pc + 3) lv st rt2 m2) : J X G ρ n nL pc lv stk rt m := by
  refine J_run (ov := none) (av := (Value.ref (ρ b) :: As.map (mv ρ)).toArray) (fun H locs ls hP hS hl => ?_) k
  obtain ⟨hx, hbb, hml, hown, hts, hk, hc, hs2, hfr, hlo⟩ := hX
  have hn2 : (As.map (mv ρ)).length = na := by rw [List.length_map]; exact hna
  have hstk : (stk.map (mv ρ)) = (As.map (mv ρ)).reverse ++ .ref (ρ b) :: st.map (mv ρ) := by
    rw [hs, List.map_append, List.map_reverse]; rfl
  refine va_runI (As := As.map (mv ρ)) (rest := st.map (mv ρ)) (b := ρ b) (nL := nL) (Ts := gt) (own := own) ⟨hx, hbb, hml, hown, hts⟩ hct
    (cwI na hts (gt_goodIn hw.1.2) rfl rfl rfl (hts _ (hw.1.1 _ (by simp))) (hts _ (hw.1.1 _ (by simp))) (hts _ (hw.1.1 _ (by simp))) hw.2.2.2 hw.2.1 ⟨by show d1 + 1 ≤ _; omega, by show 8 + (nL1 + 11) + 64 * d1 ≤ _; have := hw.2.2.1; omega⟩)
    ⟨Pcc_blind, fun U hU hW => ⟨rfl, by rw [hU]; exact hP, Wk_moved hW (by rw [hU]; exact hS.1) (fun a h1 h2 => by rw [hU]; exact hS.2.1 a h1 h2) hk⟩⟩ rfl hn2 hl.1 hstk (by show 2 * (F0 X.2.1.1 pc ls (stk.map (mv ρ))).monitorRoom + _ ≤ 8; exact lv_room (by rw [mv_sum]; exact hcat)) hd ⟨hc, hs2⟩
end Alloc3
