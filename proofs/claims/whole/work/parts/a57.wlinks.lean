theorem nw_RL_8 : NwC RL 8 9 := ⟨_, _, _, tyX10, rfl, gt_RX10, by decide, by decide, tyX10_ok, gt_of (List.mem_of_getElem? (i := 137) (by decide +kernel)) rfl, gt_of (List.mem_of_getElem? (i := 138) (by decide +kernel)) rfl, gt_of (List.mem_of_getElem? (i := 113) (by decide +kernel)) rfl, by decide +kernel⟩
theorem nw_RL_16 : NwC RL 16 10 := ⟨_, _, _, tyX11, rfl, gt_RX11, by decide, by decide, tyX11_ok, gt_of (List.mem_of_getElem? (i := 1291) (by decide +kernel)) rfl, gt_of (List.mem_of_getElem? (i := 1292) (by decide +kernel)) rfl, gt_of (List.mem_of_getElem? (i := 122) (by decide +kernel)) rfl, by decide +kernel⟩
theorem ci_RL_15 : CwI RL 15 yX10_init cX10_init 1 0 := ⟨⟨gt_3 (gt_of (List.mem_of_getElem? (i := 139) (by decide +kernel)) rfl) (gt_of (List.mem_of_getElem? (i := 140) (by decide +kernel)) rfl) (gt_of (List.mem_of_getElem? (i := 113) (by decide +kernel)) rfl), gt_of (List.mem_of_getElem? (i := 141) (by decide +kernel)) rfl⟩, by decide +kernel, by decide, rfl⟩
theorem ci_RL_18 : CwI RL 18 yX11_init cX11_init 1 0 := ⟨⟨gt_3 (gt_of (List.mem_of_getElem? (i := 1293) (by decide +kernel)) rfl) (gt_of (List.mem_of_getElem? (i := 1294) (by decide +kernel)) rfl) (gt_of (List.mem_of_getElem? (i := 122) (by decide +kernel)) rfl), gt_of (List.mem_of_getElem? (i := 1295) (by decide +kernel)) rfl⟩, by decide +kernel, by decide, rfl⟩
theorem cE_rtB {G : GG} {ρ : Nat → Nat} {rt rt2 : Rt} {m : Mm} {a : Nat} (hk : ∀ k, k < 60 → rt2 a k = rt a k) (h14 : (lay a).1 = 14 → ∀ j, rt2 a j = rt a j) (hl : (ftab (lay a).1).length ≤ 60) : cE G ρ rt2 m a = cE G ρ rt m a := by
  have e : flds (ftab (lay a).1) ρ rt2 m a = flds (ftab (lay a).1) ρ rt m a := by
    unfold flds
    apply List.map_congr_left
    intro k hk2
    have : k < 60 := Nat.lt_of_lt_of_le (List.mem_range.mp hk2) hl
    simp only [fv, hk k this]
  unfold cE
  rw [e]
  by_cases h : (lay a).1 = 14
  · simp only [h14 h]
  · simp only [h, if_false]
theorem J_rtB {X : XX} {G : GG} {ρ : Nat → Nat} {n nL pc : Nat} {lv : List (Nat × Value)} {st : List Value} {rt rt2 : Rt} {m : Mm} (h : ∀ a, a < n → cE G ρ rt2 m a = cE G ρ rt m a) (k : J X G ρ n nL pc lv st rt2 m) : J X G ρ n nL pc lv st rt m := by
  have e : wl G ρ rt2 m n = wl G ρ rt m n := by
    unfold wl
    apply List.map_congr_left
    intro a ha
    rw [h a (List.mem_range.mp ha)]
  intro H locs ls hP hS hl
  exact k H locs ls (by unfold Wp at hP ⊢; rw [e]; exact hP) hS hl
theorem lr_k : (lr133.all fun q => decide (q.2.1 < 60)) = true := by decide +kernel
theorem lay_len : ∀ a, a < 126 → (ftab (lay a).1).length ≤ 60 := by decide +kernel
theorem lay_is14 : ∀ a, a < 126 → (lay a).1 = 14 → a = 64 := by decide +kernel
theorem rt_64 : ∀ j, RT 3 10 18 22 (some 10) 64 j = rL lr133 64 j := by
  intro j
  by_cases hj : j < 60
  · exact (rt_end 64 (by decide) j hj).symm
  · have h1 : rL lr133 64 j = none := by
      cases hq : rL lr133 64 j with
      | none => rfl
      | some b =>
        have h2 := List.all_eq_true.mp lr_k _ (rL_mem hq)
        exact absurd (of_decide_eq_true h2) hj
    rw [h1]
    obtain ⟨i, rfl⟩ : ∃ i, j = i + 2 := ⟨j - 2, by omega⟩
    rfl
theorem rt_cE {G : GG} {ρ : Nat → Nat} {m : Mm} : ∀ a, a < 126 → cE G ρ (RT 3 10 18 22 (some 10)) m a = cE G ρ (rL lr133) m a := fun a ha =>
  cE_rtB (fun k hk => (rt_end a ha k hk).symm) (fun h => by rw [lay_is14 a ha h]; exact rt_64) (lay_len a ha)
