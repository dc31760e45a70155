def rho0 (b t3 : Nat) (adK adV : Nat → Nat) : Nat → Nat := fun a => if a = 4000 then b else if a = 3000 then t3 else if 2000 ≤ a then adV (a - 2000) else if 1000 ≤ a then adK (a - 1000) else a
theorem rho0_K {b t3 : Nat} {adK adV : Nat → Nat} {k : Nat} (h : k < 23) : rho0 b t3 adK adV (1000 + k) = adK k := by
  unfold rho0
  rw [if_neg (by omega), if_neg (by omega), if_neg (by omega), if_pos (by omega), show 1000 + k - 1000 = k by omega]
theorem rho0_V {b t3 : Nat} {adK adV : Nat → Nat} {k : Nat} (h : k < 23) : rho0 b t3 adK adV (2000 + k) = adV k := by
  unfold rho0
  rw [if_neg (by omega), if_neg (by omega), if_pos (by omega), show 2000 + k - 2000 = k by omega]
theorem vk_S_congr {N : Nat} {len : List Nat} {byt : List (List Int32)} {adK adV adK2 adV2 : Nat → Nat} {A : Nat → Prop} {U : State} {H : Heap} (h : vk_S N len byt adK adV A U H) (h1 : ∀ k, k < N → adK2 k = adK k) (h2 : ∀ k, k < N → adV2 k = adV k) : vk_S N len byt adK2 adV2 A U H :=
  ⟨fun i hi => by rw [h1 i hi, h2 i hi]; exact h.1 i hi, fun i j hi hj e => h.2 i j hi hj (by rw [← h1 i hi, ← h1 j hj]; exact e)⟩
theorem tx_rf : ∀ k, k < 23 → Cond.stringRef (sTab.getD k ("", 0, "")).1 (sTab.getD k ("", 0, "")).2.1 (sTab.getD k ("", 0, "")).2.2 ∈ lw_tbl := by decide +kernel
theorem nest_in : ∀ q ∈ nestL, Cond.methodLinkNest q.1 q.2.1 q.2.2.1 q.2.2.2 ∈ lw_tbl := by decide +kernel
theorem st_Sk {s : State} {args : Array Value} {G : GG} (hts : ∀ w ∈ lw_tbl, w.before args s = true) (hg : (Jvm.Cond.and given_1 narrow_1).before args s = true) (hA : ∀ a : Nat, a < s.heap.size → ¬ GA G a) (b : Nat) : ∃ ρ : Nat → Nat, ρ 4000 = b ∧ Sk G ρ s := by
  have hs := flat_of_before _ hg
  obtain ⟨adK, adV, hT, hE⟩ := st_texts hg hA
  have hC : va_Z "java/lang/String" "COMPACT_STRINGS" "Z" (.int 1) (GA G) s s.heap := va_Zof (hts _ (by decide +kernel)) (hts _ (by decide +kernel)) (Cond.eq_int (hs (Cond.eq (.static "java/lang/String" "COMPACT_STRINGS" "Z") (.int 1)) (by decide +kernel)) rfl) hA
  have hF : va_Zq "jdk/internal/util/Preconditions" "SIOOBE_FORMATTER" "Ljava/util/function/BiFunction;" (GA G) s s.heap := va_Zqof (hts _ (by decide +kernel)) (hts _ (by decide +kernel)) (hs (Cond.isRef (.static "jdk/internal/util/Preconditions" "SIOOBE_FORMATTER" "Ljava/util/function/BiFunction;")) (by decide +kernel)) hA
  obtain ⟨t3, h3⟩ : ∃ t3 : Nat, va_Z "jdk/internal/util/Preconditions" "SIOOBE_FORMATTER" "Ljava/util/function/BiFunction;" .null (GA G) s s.heap ∨ va_Z "jdk/internal/util/Preconditions" "SIOOBE_FORMATTER" "Ljava/util/function/BiFunction;" (.ref t3) (GA G) s s.heap := by
    rcases hF with h | ⟨t, h⟩
    · exact ⟨0, Or.inl h⟩
    · exact ⟨t, Or.inr h⟩
  refine ⟨rho0 b t3 adK adV, by simp [rho0], vk_S_congr hT (fun k hk => rho0_K hk) (fun k hk => rho0_V hk), hC, by rw [show rho0 b t3 adK adV 3000 = t3 by simp [rho0]]; exact h3, fun k q hq => ?_, va_AO.of (hts _ (by decide +kernel)), fun q hq => va_Nw.of rfl (hts _ (nest_in q hq))⟩
  have hk : k < 23 := (List.getElem?_eq_some_iff.mp hq).1
  have eq1 : sTab.getD k ("", 0, "") = q := by rw [List.getD_eq_getElem?_getD, hq]; rfl
  rw [rho0_K hk]
  have r1 := hts _ (tx_rf k hk)
  have r2 := hE k hk
  unfold sK at r2
  rw [eq1] at r1 r2
  exact vk_R.of r1 r2
