/-- the text constants, and what else the world takes from outside -/
theorem st_texts {s : State} {args : Array Value} {A : Nat → Prop} (hg : (Jvm.Cond.and given_1 narrow_1).before args s = true) (hA : ∀ a : Nat, a < s.heap.size → ¬ A a) : ∃ adK adV : Nat → Nat, vk_S 23 sLen sByt adK adV A s s.heap ∧ ∀ i : Nat, i < 23 → (sK i).eval args s none [] s = some (.ref (adK i)) := by
  have hs := flat_of_before _ hg
  exact vk_Sof (tm := sK) (by decide +kernel) (fun i hi => hs _ (tx_ex i hi)) (fun i hi => hs _ (tx_co i hi)) (fun i hi => hs _ (tx_ar i hi)) (fun i hi => hs _ (tx_le i hi)) (fun i hi j hj => hs _ (tx_el i hi j hj)) (fun i j hi hj hne => (tx_ne i j hi hj hne).imp (fun h => hs _ h) (fun h => hs _ h)) hA
